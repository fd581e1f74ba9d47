/-! THE CLAIM OUT OF ONE WALK OF THE LAW'S BODY. Your part is whole_start (and what it stands on); all else here is the same for every law, but numbers. -/
def R_law : String := "ChestnutLineLaw"
def lw_P (b : Addr) (xs : List Int32) (args : Array Value) (s : State) : Prop := args = #[.ref b] ∧ s.IntsAt b xs ∧ xs.length ≤ 3072 ∧ (Jvm.Cond.and given_1 narrow_1).before args s = true
def lw_Q (_ : Array Value) (s : State) (o : Outcome) (t : State) : Prop := o = .returned (some (.int 1)) ∧ Framed s o t [] 600000 7302250
def lw_Z (below : List Frame) (a : Array Value) (s : State) : State → Prop := fun t => ∃ o, t.status = .running ∧ Ended t below o ∧ lw_Q a s o t
/-- the law's own end, with 1 on the stack, nothing written that was there before, its room as the claim has it -/
theorem lw_ret {p : Program} {l : Launch} {e : Env} {s : State} {m : MethodId} {below : List Frame} {meth : Method} {c : Code} {b : Nat} (hx : p.tables.exec = Jvm.exec) (hb : c.code = code) (hr : meth.sig.returnType = ret) (hlocks : meth.locks = false) {pc : Nat} {H : Heap} {ls : Array Slot} (hdg : decode code pc = .ok (.ireturn, 1)) : W p l e room_1 s m #[Value.ref b] below meth c H [] 600000 7302250 (lw_Z below #[Value.ref b] s) (F0 m pc ls [.int 1]) := by
  intro T hT X
  obtain ⟨fs, hret, hrun, hended, hW, hframe⟩ := X.leave (v := some (.int 1)) (hlocks := hlocks) (fun h => by rw [hr] at h; cases h)
  have hmeth' : T.vm.method? m = some meth := X.method'
  refine ⟨T.setFrames fs, ?_, .returned (some (.int 1)), hrun, hended, rfl, ⟨_, rfl⟩, hW, hframe⟩
  jvm_step X.here [X.here.top, hx, hb, hdg, hmeth', hr, ret, narrow_b1]
  (try refine ⟨rfl, ?_⟩); (try refine ⟨rfl, ?_⟩)
  first | (intro acts; rw [hret _ acts rfl rfl rfl]) | rw [hret _ _ rfl rfl rfl]
  exact Steps.refl _
/-- what holds at the law's entry: the machine, the code, the tables' words (any of lw_tbl by 'hts w (by decide +kernel)'), the script of L ints xs at the cell b, what the Statement gives of the start (any of its parts by flat_of_before) -/
def lw_At (p : Program) (s : State) (m : MethodId) (meth : Method) (c : Code) (b L : Nat) (xs : Nat → Int32) : Prop :=
  p.tables.exec = Jvm.exec ∧ c.code = code ∧ meth.sig.returnType = ret ∧ c.maxLocals = 4 ∧ s.vm.findClass R_law = some m.cls ∧ (∀ w ∈ lw_tbl, w.before #[Value.ref b] s = true) ∧ va_X b L xs s s.heap ∧ b < s.heap.size ∧ meth.locks = false ∧ (Jvm.Cond.and given_1 narrow_1).before #[Value.ref b] s = true
section LawRows
variable {p : Program} {l : Launch} {e : Env} {R : Room} {s : State} {m : MethodId} {args : Array Value} {below : List Frame} {meth : Method} {c : Code} {nc ns : Nat} {Q : State → Prop}
variable {cc : ByteArray} {own : String} {nL : Nat} {D : va_G} {cy : Nat → ClassId} {g : Nat → Nat}
variable {pc : Nat} {lv : List (Nat × Value)} {st : List Value} {σ : zSto}
theorem zx_sld (C : zC p s m args meth c cc own nL D cy g) {b L : Nat} {xs : Nat → Int32} (hX : va_X b L xs s s.heap) (hbl : b < s.heap.size) (hbA : ¬ zA g s.heap.size b) {i : Int32} (hi : vp_in i L) (hd : decode cc pc = .ok (.iaload, 1)) (k : zX p l e R s m args below meth c nc ns Q nL D cy g (pc + 1) lv (.int (xs i.toNatClampNeg) :: st) σ) : zX p l e R s m args below meth c nc ns Q nL D cy g pc lv (.int i :: .ref b :: st) σ := fun ls H locs h1 h2 h3 => va_sld C.1.1 C.1.2.1 hX hbl hbA h3 hi hd (k ls H locs h1 h2 h3)
theorem zx_slen (C : zC p s m args meth c cc own nL D cy g) {b L : Nat} {xs : Nat → Int32} (hX : va_X b L xs s s.heap) (hbl : b < s.heap.size) (hbA : ¬ zA g s.heap.size b) (hd : decode cc pc = .ok (.arraylength, 1)) (k : zX p l e R s m args below meth c nc ns Q nL D cy g (pc + 1) lv (.int (Int32.ofNat L) :: st) σ) : zX p l e R s m args below meth c nc ns Q nL D cy g pc lv (.ref b :: st) σ := fun ls H locs h1 h2 h3 => va_slen C.1.1 C.1.2.1 hX hbl hbA h3 hd (k ls H locs h1 h2 h3)
theorem zx_lawret {b : Nat} (C : zC p s m #[Value.ref b] meth c cL_law RL 4 D cy g) (hr : meth.sig.returnType = ret) (hgo : ∀ k, k < 250 → s.heap.size ≤ g k) (hd : decode cL_law pc = .ok (.ireturn, 1)) : zX p l e room_1 s m #[Value.ref b] below meth c 250 14165 (lw_Z below #[Value.ref b] s) 4 D cy g pc lv [.int 1] σ := fun ls H locs h1 h2 h3 => by
  refine va_forget (fun q hq => ?_) (W.widen (k := 600000) (n := 7302250) (by omega) (by omega) (lw_ret C.1.1 C.1.2.1 hr C.2.2.2.2 hd))
  rcases h3.2.2 q hq with ⟨k, hk, e1⟩ | h
  · rw [e1]; exact hgo k hk
  · exact h
end LawRows
/-- the store of two new objects -/
def σ0 : zSto := (fun k j => if (k = 1 ∨ k = 44 ∨ k = 86 ∨ k = 128) ∧ j = 7 then -1 else if k = 227 ∧ j = 0 then -1 else 0, fun _ _ => 0)
def zfin (cy : Nat → ClassId) (o : Nat) : Nat → va_E := fun k => zE cy (fun k => o + k) k (σ0.1 k) (σ0.2 k) (zsh k)
theorem zfin_W (cy : Nat → ClassId) (o : Nat) : zG 250 o (zfin cy o) = zW cy (fun k => o + k) σ0 := rfl
theorem lk_L_13 : zLV RL 13 RX9 yX9_feed cX9_feed 6 (some .int) 5 := zLV_of ml_L_13 im_X9_feed se_X9_feed ini_X9 cd_X9_feed (by decide +kernel)
theorem lk_L_17 : zLV RL 17 RX10 yX10_feed cX10_feed 6 (some .int) 5 := zLV_of ml_L_17 im_X10_feed se_X10_feed ini_X10 cd_X10_feed (by decide +kernel)
theorem lk_L_18 : zLV RL 18 RX9 yX9_end cX9_end 2 (some .int) 1 := zLV_of ml_L_18 im_X9_end se_X9_end ini_X9 cd_X9_end (by decide +kernel)
theorem lk_L_22 : zLV RL 22 RX10 yX10_end cX10_end 2 (some .int) 1 := zLV_of ml_L_22 im_X10_end se_X10_end ini_X10 cd_X10_end (by decide +kernel)
theorem lk_L_23 : zLV RL 23 RX9 yX9_text cX9_text 5 (some .int) 2 := zLV_of ml_L_23 im_X9_text se_X9_text ini_X9 cd_X9_text (by decide +kernel)
theorem lk_L_27 : zLV RL 27 RX10 yX10_text cX10_text 4 (some .int) 2 := zLV_of ml_L_27 im_X10_text se_X10_text ini_X10 cd_X10_text (by decide +kernel)
theorem lk_L_28 : zLV RL 28 RX9 yX9_fault cX9_fault 2 (some .int) 1 := zLV_of ml_L_28 im_X9_fault se_X9_fault ini_X9 cd_X9_fault (by decide +kernel)
theorem lk_L_31 : zLV RL 31 RX10 yX10_fault cX10_fault 2 (some .int) 1 := zLV_of ml_L_31 im_X10_fault se_X10_fault ini_X10 cd_X10_fault (by decide +kernel)
theorem lk_L_32 : zLV RL 32 RX9 yX9_line cX9_line 4 (some .int) 2 := zLV_of ml_L_32 im_X9_line se_X9_line ini_X9 cd_X9_line (by decide +kernel)
theorem lk_L_35 : zLV RL 35 RX10 yX10_line cX10_line 5 (some .int) 2 := zLV_of ml_L_35 im_X10_line se_X10_line ini_X10 cd_X10_line (by decide +kernel)
theorem lk_L_36 : zLV RL 36 RX9 yX9_post cX9_post 5 (some .int) 3 := zLV_of ml_L_36 im_X9_post se_X9_post ini_X9 cd_X9_post (by decide +kernel)
theorem lk_L_40 : zLV RL 40 RX10 yX10_post cX10_post 4 (some .int) 3 := zLV_of ml_L_40 im_X10_post se_X10_post ini_X10 cd_X10_post (by decide +kernel)
theorem lk_L_41 : zLV RL 41 RX9 yX9_rider cX9_rider 5 (some .int) 3 := zLV_of ml_L_41 im_X9_rider se_X9_rider ini_X9 cd_X9_rider (by decide +kernel)
theorem lk_L_44 : zLV RL 44 RX10 yX10_rider cX10_rider 4 (some .int) 3 := zLV_of ml_L_44 im_X10_rider se_X10_rider ini_X10 cd_X10_rider (by decide +kernel)
theorem lk_L_45 : zLV RL 45 RX9 yX9_run cX9_run 7 (some .int) 5 := zLV_of ml_L_45 im_X9_run se_X9_run ini_X9 cd_X9_run (by decide +kernel)
theorem lk_L_48 : zLV RL 48 RX10 yX10_run cX10_run 6 (some .int) 5 := zLV_of ml_L_48 im_X10_run se_X10_run ini_X10 cd_X10_run (by decide +kernel)
theorem lk_L_49 : zLV RL 49 RX9 yX9_who cX9_who 7 (some .int) 5 := zLV_of ml_L_49 im_X9_who se_X9_who ini_X9 cd_X9_who (by decide +kernel)
theorem lk_L_52 : zLV RL 52 RX10 yX10_who cX10_who 6 (some .int) 5 := zLV_of ml_L_52 im_X10_who se_X10_who ini_X10 cd_X10_who (by decide +kernel)
theorem lk_L_53 : zLV RL 53 RX9 yX9_late cX9_late 7 (some .int) 5 := zLV_of ml_L_53 im_X9_late se_X9_late ini_X9 cd_X9_late (by decide +kernel)
theorem lk_L_56 : zLV RL 56 RX10 yX10_late cX10_late 6 (some .int) 5 := zLV_of ml_L_56 im_X10_late se_X10_late ini_X10 cd_X10_late (by decide +kernel)
theorem lk_L_57 : zLV RL 57 RX9 yX9_purse cX9_purse 7 (some .int) 4 := zLV_of ml_L_57 im_X9_purse se_X9_purse ini_X9 cd_X9_purse (by decide +kernel)
theorem lk_L_61 : zLV RL 61 RX10 yX10_purse cX10_purse 12 (some .int) 4 := zLV_of ml_L_61 im_X10_purse se_X10_purse ini_X10 cd_X10_purse (by decide +kernel)
theorem lk_L_62 : zLV RL 62 RX9 yX9_rest cX9_rest 7 (some .int) 3 := zLV_of ml_L_62 im_X9_rest se_X9_rest ini_X9 cd_X9_rest (by decide +kernel)
theorem lk_L_65 : zLV RL 65 RX10 yX10_rest cX10_rest 6 (some .int) 3 := zLV_of ml_L_65 im_X10_rest se_X10_rest ini_X10 cd_X10_rest (by decide +kernel)
theorem lk_L_66 : zLV RL 66 RX9 yX9_gain cX9_gain 6 (some .int) 4 := zLV_of ml_L_66 im_X9_gain se_X9_gain ini_X9 cd_X9_gain (by decide +kernel)
theorem lk_L_69 : zLV RL 69 RX10 yX10_gain cX10_gain 5 (some .int) 4 := zLV_of ml_L_69 im_X10_gain se_X10_gain ini_X10 cd_X10_gain (by decide +kernel)
theorem lk_L_70 : zLV RL 70 RX9 yX9_chance cX9_chance 5 (some .long) 3 := zLV_of ml_L_70 im_X9_chance se_X9_chance ini_X9 cd_X9_chance (by decide +kernel)
theorem lk_L_74 : zLV RL 74 RX10 yX10_chance cX10_chance 7 (some .long) 3 := zLV_of ml_L_74 im_X10_chance se_X10_chance ini_X10 cd_X10_chance (by decide +kernel)
theorem lk_L_75 : zLV RL 75 RX9 yX9_slack cX9_slack 4 (some .int) 2 := zLV_of ml_L_75 im_X9_slack se_X9_slack ini_X9 cd_X9_slack (by decide +kernel)
theorem lk_L_78 : zLV RL 78 RX10 yX10_slack cX10_slack 3 (some .int) 2 := zLV_of ml_L_78 im_X10_slack se_X10_slack ini_X10 cd_X10_slack (by decide +kernel)
theorem lk_L_79 : zLV RL 79 RX9 yX9_shells cX9_shells 9 (some .int) 5 := zLV_of ml_L_79 im_X9_shells se_X9_shells ini_X9 cd_X9_shells (by decide +kernel)
theorem lk_L_82 : zLV RL 82 RX10 yX10_shells cX10_shells 11 (some .int) 5 := zLV_of ml_L_82 im_X10_shells se_X10_shells ini_X10 cd_X10_shells (by decide +kernel)
theorem lk_L_83 : zLV RL 83 RX9 yX9_meet cX9_meet 7 (some .int) 5 := zLV_of ml_L_83 im_X9_meet se_X9_meet ini_X9 cd_X9_meet (by decide +kernel)
theorem lk_L_86 : zLV RL 86 RX10 yX10_meet cX10_meet 8 (some .int) 5 := zLV_of ml_L_86 im_X10_meet se_X10_meet ini_X10 cd_X10_meet (by decide +kernel)
theorem lk_L_87 : zLV RL 87 RX9 yX9_pull cX9_pull 4 (some .int) 3 := zLV_of ml_L_87 im_X9_pull se_X9_pull ini_X9 cd_X9_pull (by decide +kernel)
theorem lk_L_90 : zLV RL 90 RX10 yX10_pull cX10_pull 4 (some .int) 3 := zLV_of ml_L_90 im_X10_pull se_X10_pull ini_X10 cd_X10_pull (by decide +kernel)
theorem lk_L_91 : zLV RL 91 RX9 yX9_played cX9_played 8 (some .int) 4 := zLV_of ml_L_91 im_X9_played se_X9_played ini_X9 cd_X9_played (by decide +kernel)
theorem lk_L_94 : zLV RL 94 RX10 yX10_played cX10_played 6 (some .int) 4 := zLV_of ml_L_94 im_X10_played se_X10_played ini_X10 cd_X10_played (by decide +kernel)
theorem lk_L_95 : zLV RL 95 RX9 yX9_print cX9_print 5 (some .int) 3 := zLV_of ml_L_95 im_X9_print se_X9_print ini_X9 cd_X9_print (by decide +kernel)
theorem lk_L_98 : zLV RL 98 RX10 yX10_print cX10_print 6 (some .int) 3 := zLV_of ml_L_98 im_X10_print se_X10_print ini_X10 cd_X10_print (by decide +kernel)
theorem lk_L_99 : zLV RL 99 RX9 yX9_most cX9_most 10 (some .int) 4 := zLV_of ml_L_99 im_X9_most se_X9_most ini_X9 cd_X9_most (by decide +kernel)
theorem lk_L_103 : zLV RL 103 RX10 yX10_most cX10_most 9 (some .int) 4 := zLV_of ml_L_103 im_X10_most se_X10_most ini_X10 cd_X10_most (by decide +kernel)
theorem lk_L_104 : zLV RL 104 RX9 yX9_weeks cX9_weeks 10 (some .int) 4 := zLV_of ml_L_104 im_X9_weeks se_X9_weeks ini_X9 cd_X9_weeks (by decide +kernel)
theorem lk_L_107 : zLV RL 107 RX10 yX10_weeks cX10_weeks 11 (some .int) 4 := zLV_of ml_L_107 im_X10_weeks se_X10_weeks ini_X10 cd_X10_weeks (by decide +kernel)
theorem lk_L_108 : zLV RL 108 RX9 yX9_calm cX9_calm 8 (some .int) 3 := zLV_of ml_L_108 im_X9_calm se_X9_calm ini_X9 cd_X9_calm (by decide +kernel)
theorem lk_L_111 : zLV RL 111 RX10 yX10_calm cX10_calm 6 (some .int) 3 := zLV_of ml_L_111 im_X10_calm se_X10_calm ini_X10 cd_X10_calm (by decide +kernel)
theorem lk_L_112 : zLV RL 112 RX9 yX9_rich cX9_rich 7 (some .int) 5 := zLV_of ml_L_112 im_X9_rich se_X9_rich ini_X9 cd_X9_rich (by decide +kernel)
theorem lk_L_116 : zLV RL 116 RX10 yX10_rich cX10_rich 6 (some .int) 5 := zLV_of ml_L_116 im_X10_rich se_X10_rich ini_X10 cd_X10_rich (by decide +kernel)
theorem lk_L_117 : zLV RL 117 RX9 yX9_lots cX9_lots 11 (some .int) 5 := zLV_of ml_L_117 im_X9_lots se_X9_lots ini_X9 cd_X9_lots (by decide +kernel)
theorem lk_L_120 : zLV RL 120 RX10 yX10_lots cX10_lots 8 (some .int) 5 := zLV_of ml_L_120 im_X10_lots se_X10_lots ini_X10 cd_X10_lots (by decide +kernel)
theorem lk_L_121 : zLV RL 121 RX9 yX9_seen cX9_seen 4 (some .int) 3 := zLV_of ml_L_121 im_X9_seen se_X9_seen ini_X9 cd_X9_seen (by decide +kernel)
theorem lk_L_124 : zLV RL 124 RX10 yX10_seen cX10_seen 5 (some .int) 3 := zLV_of ml_L_124 im_X10_seen se_X10_seen ini_X10 cd_X10_seen (by decide +kernel)
theorem lk_L_125 : zLV RL 125 RX9 yX9_hold cX9_hold 6 (some .int) 3 := zLV_of ml_L_125 im_X9_hold se_X9_hold ini_X9 cd_X9_hold (by decide +kernel)
theorem lk_L_128 : zLV RL 128 RX10 yX10_hold cX10_hold 9 (some .int) 3 := zLV_of ml_L_128 im_X10_hold se_X10_hold ini_X10 cd_X10_hold (by decide +kernel)
theorem lk_L_129 : zLV RL 129 RX9 yX9_risk cX9_risk 8 (some .int) 2 := zLV_of ml_L_129 im_X9_risk se_X9_risk ini_X9 cd_X9_risk (by decide +kernel)
theorem lk_L_132 : zLV RL 132 RX10 yX10_risk cX10_risk 7 (some .int) 2 := zLV_of ml_L_132 im_X10_risk se_X10_risk ini_X10 cd_X10_risk (by decide +kernel)
theorem lk_L_133 : zLV RL 133 RX9 yX9_vote cX9_vote 10 (some .int) 4 := zLV_of ml_L_133 im_X9_vote se_X9_vote ini_X9 cd_X9_vote (by decide +kernel)
theorem lk_L_136 : zLV RL 136 RX10 yX10_vote cX10_vote 7 (some .int) 4 := zLV_of ml_L_136 im_X10_vote se_X10_vote ini_X10 cd_X10_vote (by decide +kernel)
theorem lk_L_137 : zLV RL 137 RX9 yX9_left cX9_left 7 (some .int) 5 := zLV_of ml_L_137 im_X9_left se_X9_left ini_X9 cd_X9_left (by decide +kernel)
theorem lk_L_140 : zLV RL 140 RX10 yX10_left cX10_left 8 (some .int) 5 := zLV_of ml_L_140 im_X10_left se_X10_left ini_X10 cd_X10_left (by decide +kernel)
theorem lk_L_141 : zLV RL 141 RX9 yX9_bid cX9_bid 6 (some .int) 4 := zLV_of ml_L_141 im_X9_bid se_X9_bid ini_X9 cd_X9_bid (by decide +kernel)
theorem lk_L_144 : zLV RL 144 RX10 yX10_bid cX10_bid 10 (some .int) 4 := zLV_of ml_L_144 im_X10_bid se_X10_bid ini_X10 cd_X10_bid (by decide +kernel)
theorem lk_L_145 : zLV RL 145 RX9 yX9_count cX9_count 2 (some .int) 1 := zLV_of ml_L_145 im_X9_count se_X9_count ini_X9 cd_X9_count (by decide +kernel)
theorem lk_L_148 : zLV RL 148 RX10 yX10_count cX10_count 2 (some .int) 1 := zLV_of ml_L_148 im_X10_count se_X10_count ini_X10 cd_X10_count (by decide +kernel)
theorem lk_L_149 : zLV RL 149 RX9 yX9_image cX9_image 2 (some .boolean) 1 := zLV_of ml_L_149 im_X9_image se_X9_image ini_X9 cd_X9_image (by decide +kernel)
theorem lk_L_153 : zLV RL 153 RX10 yX10_image cX10_image 2 (some .boolean) 1 := zLV_of ml_L_153 im_X10_image se_X10_image ini_X10 cd_X10_image (by decide +kernel)
theorem lk_L_154 : zLV RL 154 RX9 yX9_again cX9_again 2 (some .boolean) 1 := zLV_of ml_L_154 im_X9_again se_X9_again ini_X9 cd_X9_again (by decide +kernel)
theorem lk_L_157 : zLV RL 157 RX10 yX10_again cX10_again 2 (some .boolean) 1 := zLV_of ml_L_157 im_X10_again se_X10_again ini_X10 cd_X10_again (by decide +kernel)
def w_law_18 (L : Nat) (xs : Nat → Int32) : Nat → Int32 → zSto → Prop
  | 0, _, _ => False
  | n + 1, x_3, σ => ((((Int32.ofNat L) - (6 : Int32)) < x_3 → True) ∧ (¬ ((Int32.ofNat L) - (6 : Int32)) < x_3 → (vp_in x_3 L ∧ ((((xs (x_3).toNatClampNeg) &&& (63 : Int32)) = 0 → (vp_in (x_3 + (1 : Int32)) L ∧ (vp_in (x_3 + (2 : Int32)) L ∧ (vp_in (x_3 + (3 : Int32)) L ∧ (vp_in (x_3 + (4 : Int32)) L ∧ (vp_in (x_3 + (5 : Int32)) L ∧ (w_X9_feed (xs ((x_3 + (1 : Int32))).toNatClampNeg) (xs ((x_3 + (2 : Int32))).toNatClampNeg) (xs ((x_3 + (3 : Int32))).toNatClampNeg) (xs ((x_3 + (4 : Int32))).toNatClampNeg) (xs ((x_3 + (5 : Int32))).toNatClampNeg) σ (fun (r8 : Int32) (σ7 : zSto) => (vp_in (x_3 + (1 : Int32)) L ∧ (vp_in (x_3 + (2 : Int32)) L ∧ (vp_in (x_3 + (3 : Int32)) L ∧ (vp_in (x_3 + (4 : Int32)) L ∧ (vp_in (x_3 + (5 : Int32)) L ∧ (w_X10_feed (xs ((x_3 + (1 : Int32))).toNatClampNeg) (xs ((x_3 + (2 : Int32))).toNatClampNeg) (xs ((x_3 + (3 : Int32))).toNatClampNeg) (xs ((x_3 + (4 : Int32))).toNatClampNeg) (xs ((x_3 + (5 : Int32))).toNatClampNeg) σ7 (fun (r15 : Int32) (σ14 : zSto) => (∀ x16 : Int32, x16 = (x_3 + (6 : Int32)) → w_law_18 L xs n x16 σ14)))))))))))))))) ∧ (((xs (x_3).toNatClampNeg) &&& (63 : Int32)) = 1 → (vp_in (x_3 + (1 : Int32)) L ∧ (w_X9_end (xs ((x_3 + (1 : Int32))).toNatClampNeg) σ (fun (r19 : Int32) (σ18 : zSto) => (vp_in (x_3 + (1 : Int32)) L ∧ (w_X10_end (xs ((x_3 + (1 : Int32))).toNatClampNeg) σ18 (fun (r22 : Int32) (σ21 : zSto) => (∀ x23 : Int32, x23 = (x_3 + (6 : Int32)) → w_law_18 L xs n x23 σ21)))))))) ∧ (((xs (x_3).toNatClampNeg) &&& (63 : Int32)) = 2 → (vp_in (x_3 + (1 : Int32)) L ∧ (vp_in (x_3 + (2 : Int32)) L ∧ (w_X9_text (xs ((x_3 + (1 : Int32))).toNatClampNeg) (xs ((x_3 + (2 : Int32))).toNatClampNeg) σ (fun (r27 : Int32) (σ26 : zSto) => (vp_in (x_3 + (1 : Int32)) L ∧ (vp_in (x_3 + (2 : Int32)) L ∧ (w_X10_text (xs ((x_3 + (1 : Int32))).toNatClampNeg) (xs ((x_3 + (2 : Int32))).toNatClampNeg) σ26 (fun (r31 : Int32) (σ30 : zSto) => (∀ x32 : Int32, x32 = (x_3 + (6 : Int32)) → w_law_18 L xs n x32 σ30)))))))))) ∧ (((xs (x_3).toNatClampNeg) &&& (63 : Int32)) = 3 → (vp_in (x_3 + (1 : Int32)) L ∧ (w_X9_fault (xs ((x_3 + (1 : Int32))).toNatClampNeg) σ (fun (r35 : Int32) (σ34 : zSto) => (vp_in (x_3 + (1 : Int32)) L ∧ (w_X10_fault (xs ((x_3 + (1 : Int32))).toNatClampNeg) σ34 (fun (r38 : Int32) (σ37 : zSto) => (∀ x39 : Int32, x39 = (x_3 + (6 : Int32)) → w_law_18 L xs n x39 σ37)))))))) ∧ (((xs (x_3).toNatClampNeg) &&& (63 : Int32)) = 4 → (vp_in (x_3 + (1 : Int32)) L ∧ (vp_in (x_3 + (2 : Int32)) L ∧ (w_X9_line (xs ((x_3 + (1 : Int32))).toNatClampNeg) (xs ((x_3 + (2 : Int32))).toNatClampNeg) σ (fun (r43 : Int32) (σ42 : zSto) => (vp_in (x_3 + (1 : Int32)) L ∧ (vp_in (x_3 + (2 : Int32)) L ∧ (w_X10_line (xs ((x_3 + (1 : Int32))).toNatClampNeg) (xs ((x_3 + (2 : Int32))).toNatClampNeg) σ42 (fun (r47 : Int32) (σ46 : zSto) => (∀ x48 : Int32, x48 = (x_3 + (6 : Int32)) → w_law_18 L xs n x48 σ46)))))))))) ∧ (((xs (x_3).toNatClampNeg) &&& (63 : Int32)) = 5 → (vp_in (x_3 + (1 : Int32)) L ∧ (vp_in (x_3 + (2 : Int32)) L ∧ (vp_in (x_3 + (3 : Int32)) L ∧ (w_X9_post (xs ((x_3 + (1 : Int32))).toNatClampNeg) (xs ((x_3 + (2 : Int32))).toNatClampNeg) (xs ((x_3 + (3 : Int32))).toNatClampNeg) σ (fun (r53 : Int32) (σ52 : zSto) => (vp_in (x_3 + (1 : Int32)) L ∧ (vp_in (x_3 + (2 : Int32)) L ∧ (vp_in (x_3 + (3 : Int32)) L ∧ (w_X10_post (xs ((x_3 + (1 : Int32))).toNatClampNeg) (xs ((x_3 + (2 : Int32))).toNatClampNeg) (xs ((x_3 + (3 : Int32))).toNatClampNeg) σ52 (fun (r58 : Int32) (σ57 : zSto) => (∀ x59 : Int32, x59 = (x_3 + (6 : Int32)) → w_law_18 L xs n x59 σ57)))))))))))) ∧ (((xs (x_3).toNatClampNeg) &&& (63 : Int32)) = 6 → (vp_in (x_3 + (1 : Int32)) L ∧ (vp_in (x_3 + (2 : Int32)) L ∧ (vp_in (x_3 + (3 : Int32)) L ∧ (w_X9_rider (xs ((x_3 + (1 : Int32))).toNatClampNeg) (xs ((x_3 + (2 : Int32))).toNatClampNeg) (xs ((x_3 + (3 : Int32))).toNatClampNeg) σ (fun (r64 : Int32) (σ63 : zSto) => (vp_in (x_3 + (1 : Int32)) L ∧ (vp_in (x_3 + (2 : Int32)) L ∧ (vp_in (x_3 + (3 : Int32)) L ∧ (w_X10_rider (xs ((x_3 + (1 : Int32))).toNatClampNeg) (xs ((x_3 + (2 : Int32))).toNatClampNeg) (xs ((x_3 + (3 : Int32))).toNatClampNeg) σ63 (fun (r69 : Int32) (σ68 : zSto) => (∀ x70 : Int32, x70 = (x_3 + (6 : Int32)) → w_law_18 L xs n x70 σ68)))))))))))) ∧ (((xs (x_3).toNatClampNeg) &&& (63 : Int32)) = 7 → (vp_in (x_3 + (1 : Int32)) L ∧ (vp_in (x_3 + (2 : Int32)) L ∧ (vp_in (x_3 + (3 : Int32)) L ∧ (vp_in (x_3 + (4 : Int32)) L ∧ (vp_in (x_3 + (5 : Int32)) L ∧ (w_X9_run (xs ((x_3 + (1 : Int32))).toNatClampNeg) (xs ((x_3 + (2 : Int32))).toNatClampNeg) (xs ((x_3 + (3 : Int32))).toNatClampNeg) (xs ((x_3 + (4 : Int32))).toNatClampNeg) (xs ((x_3 + (5 : Int32))).toNatClampNeg) σ (fun (r77 : Int32) (σ76 : zSto) => (vp_in (x_3 + (1 : Int32)) L ∧ (vp_in (x_3 + (2 : Int32)) L ∧ (vp_in (x_3 + (3 : Int32)) L ∧ (vp_in (x_3 + (4 : Int32)) L ∧ (vp_in (x_3 + (5 : Int32)) L ∧ (w_X10_run (xs ((x_3 + (1 : Int32))).toNatClampNeg) (xs ((x_3 + (2 : Int32))).toNatClampNeg) (xs ((x_3 + (3 : Int32))).toNatClampNeg) (xs ((x_3 + (4 : Int32))).toNatClampNeg) (xs ((x_3 + (5 : Int32))).toNatClampNeg) σ76 (fun (r84 : Int32) (σ83 : zSto) => (∀ x85 : Int32, x85 = (x_3 + (6 : Int32)) → w_law_18 L xs n x85 σ83)))))))))))))))) ∧ (((xs (x_3).toNatClampNeg) &&& (63 : Int32)) = 8 → (vp_in (x_3 + (1 : Int32)) L ∧ (vp_in (x_3 + (2 : Int32)) L ∧ (vp_in (x_3 + (3 : Int32)) L ∧ (vp_in (x_3 + (4 : Int32)) L ∧ (vp_in (x_3 + (5 : Int32)) L ∧ (w_X9_who (xs ((x_3 + (1 : Int32))).toNatClampNeg) (xs ((x_3 + (2 : Int32))).toNatClampNeg) (xs ((x_3 + (3 : Int32))).toNatClampNeg) (xs ((x_3 + (4 : Int32))).toNatClampNeg) (xs ((x_3 + (5 : Int32))).toNatClampNeg) σ (fun (r92 : Int32) (σ91 : zSto) => (vp_in (x_3 + (1 : Int32)) L ∧ (vp_in (x_3 + (2 : Int32)) L ∧ (vp_in (x_3 + (3 : Int32)) L ∧ (vp_in (x_3 + (4 : Int32)) L ∧ (vp_in (x_3 + (5 : Int32)) L ∧ (w_X10_who (xs ((x_3 + (1 : Int32))).toNatClampNeg) (xs ((x_3 + (2 : Int32))).toNatClampNeg) (xs ((x_3 + (3 : Int32))).toNatClampNeg) (xs ((x_3 + (4 : Int32))).toNatClampNeg) (xs ((x_3 + (5 : Int32))).toNatClampNeg) σ91 (fun (r99 : Int32) (σ98 : zSto) => (∀ x100 : Int32, x100 = (x_3 + (6 : Int32)) → w_law_18 L xs n x100 σ98)))))))))))))))) ∧ (((xs (x_3).toNatClampNeg) &&& (63 : Int32)) = 9 → (vp_in (x_3 + (1 : Int32)) L ∧ (vp_in (x_3 + (2 : Int32)) L ∧ (vp_in (x_3 + (3 : Int32)) L ∧ (vp_in (x_3 + (4 : Int32)) L ∧ (vp_in (x_3 + (5 : Int32)) L ∧ (w_X9_late (xs ((x_3 + (1 : Int32))).toNatClampNeg) (xs ((x_3 + (2 : Int32))).toNatClampNeg) (xs ((x_3 + (3 : Int32))).toNatClampNeg) (xs ((x_3 + (4 : Int32))).toNatClampNeg) (xs ((x_3 + (5 : Int32))).toNatClampNeg) σ (fun (r107 : Int32) (σ106 : zSto) => (vp_in (x_3 + (1 : Int32)) L ∧ (vp_in (x_3 + (2 : Int32)) L ∧ (vp_in (x_3 + (3 : Int32)) L ∧ (vp_in (x_3 + (4 : Int32)) L ∧ (vp_in (x_3 + (5 : Int32)) L ∧ (w_X10_late (xs ((x_3 + (1 : Int32))).toNatClampNeg) (xs ((x_3 + (2 : Int32))).toNatClampNeg) (xs ((x_3 + (3 : Int32))).toNatClampNeg) (xs ((x_3 + (4 : Int32))).toNatClampNeg) (xs ((x_3 + (5 : Int32))).toNatClampNeg) σ106 (fun (r114 : Int32) (σ113 : zSto) => (∀ x115 : Int32, x115 = (x_3 + (6 : Int32)) → w_law_18 L xs n x115 σ113)))))))))))))))) ∧ (((xs (x_3).toNatClampNeg) &&& (63 : Int32)) = 10 → (vp_in (x_3 + (1 : Int32)) L ∧ (vp_in (x_3 + (2 : Int32)) L ∧ (vp_in (x_3 + (3 : Int32)) L ∧ (vp_in (x_3 + (4 : Int32)) L ∧ (w_X9_purse (xs ((x_3 + (1 : Int32))).toNatClampNeg) (xs ((x_3 + (2 : Int32))).toNatClampNeg) (xs ((x_3 + (3 : Int32))).toNatClampNeg) (xs ((x_3 + (4 : Int32))).toNatClampNeg) σ (fun (r121 : Int32) (σ120 : zSto) => (vp_in (x_3 + (1 : Int32)) L ∧ (vp_in (x_3 + (2 : Int32)) L ∧ (vp_in (x_3 + (3 : Int32)) L ∧ (vp_in (x_3 + (4 : Int32)) L ∧ (w_X10_purse (xs ((x_3 + (1 : Int32))).toNatClampNeg) (xs ((x_3 + (2 : Int32))).toNatClampNeg) (xs ((x_3 + (3 : Int32))).toNatClampNeg) (xs ((x_3 + (4 : Int32))).toNatClampNeg) σ120 (fun (r127 : Int32) (σ126 : zSto) => (∀ x128 : Int32, x128 = (x_3 + (6 : Int32)) → w_law_18 L xs n x128 σ126)))))))))))))) ∧ (((xs (x_3).toNatClampNeg) &&& (63 : Int32)) = 11 → (vp_in (x_3 + (1 : Int32)) L ∧ (vp_in (x_3 + (2 : Int32)) L ∧ (vp_in (x_3 + (3 : Int32)) L ∧ (w_X9_rest (xs ((x_3 + (1 : Int32))).toNatClampNeg) (xs ((x_3 + (2 : Int32))).toNatClampNeg) (xs ((x_3 + (3 : Int32))).toNatClampNeg) σ (fun (r133 : Int32) (σ132 : zSto) => (vp_in (x_3 + (1 : Int32)) L ∧ (vp_in (x_3 + (2 : Int32)) L ∧ (vp_in (x_3 + (3 : Int32)) L ∧ (w_X10_rest (xs ((x_3 + (1 : Int32))).toNatClampNeg) (xs ((x_3 + (2 : Int32))).toNatClampNeg) (xs ((x_3 + (3 : Int32))).toNatClampNeg) σ132 (fun (r138 : Int32) (σ137 : zSto) => (∀ x139 : Int32, x139 = (x_3 + (6 : Int32)) → w_law_18 L xs n x139 σ137)))))))))))) ∧ (((xs (x_3).toNatClampNeg) &&& (63 : Int32)) = 12 → (vp_in (x_3 + (1 : Int32)) L ∧ (vp_in (x_3 + (2 : Int32)) L ∧ (vp_in (x_3 + (3 : Int32)) L ∧ (vp_in (x_3 + (4 : Int32)) L ∧ (w_X9_gain (xs ((x_3 + (1 : Int32))).toNatClampNeg) (xs ((x_3 + (2 : Int32))).toNatClampNeg) (xs ((x_3 + (3 : Int32))).toNatClampNeg) (xs ((x_3 + (4 : Int32))).toNatClampNeg) σ (fun (r145 : Int32) (σ144 : zSto) => (vp_in (x_3 + (1 : Int32)) L ∧ (vp_in (x_3 + (2 : Int32)) L ∧ (vp_in (x_3 + (3 : Int32)) L ∧ (vp_in (x_3 + (4 : Int32)) L ∧ (w_X10_gain (xs ((x_3 + (1 : Int32))).toNatClampNeg) (xs ((x_3 + (2 : Int32))).toNatClampNeg) (xs ((x_3 + (3 : Int32))).toNatClampNeg) (xs ((x_3 + (4 : Int32))).toNatClampNeg) σ144 (fun (r151 : Int32) (σ150 : zSto) => (∀ x152 : Int32, x152 = (x_3 + (6 : Int32)) → w_law_18 L xs n x152 σ150)))))))))))))) ∧ (((xs (x_3).toNatClampNeg) &&& (63 : Int32)) = 13 → (vp_in (x_3 + (1 : Int32)) L ∧ (vp_in (x_3 + (2 : Int32)) L ∧ (vp_in (x_3 + (3 : Int32)) L ∧ (((xs ((x_3 + (3 : Int32))).toNatClampNeg) = 0 → (w_X9_chance (xs ((x_3 + (1 : Int32))).toNatClampNeg) (xs ((x_3 + (2 : Int32))).toNatClampNeg) (0 : Int32) σ (fun (r157 : Int64) (σ156 : zSto) => (vp_in (x_3 + (1 : Int32)) L ∧ (vp_in (x_3 + (2 : Int32)) L ∧ (vp_in (x_3 + (3 : Int32)) L ∧ (((xs ((x_3 + (3 : Int32))).toNatClampNeg) = 0 → (w_X10_chance (xs ((x_3 + (1 : Int32))).toNatClampNeg) (xs ((x_3 + (2 : Int32))).toNatClampNeg) (0 : Int32) σ156 (fun (r162 : Int64) (σ161 : zSto) => (∀ x163 : Int32, x163 = (x_3 + (6 : Int32)) → w_law_18 L xs n x163 σ161)))) ∧ (¬ (xs ((x_3 + (3 : Int32))).toNatClampNeg) = 0 → (w_X10_chance (xs ((x_3 + (1 : Int32))).toNatClampNeg) (xs ((x_3 + (2 : Int32))).toNatClampNeg) (1 : Int32) σ156 (fun (r165 : Int64) (σ164 : zSto) => (∀ x166 : Int32, x166 = (x_3 + (6 : Int32)) → w_law_18 L xs n x166 σ164))))))))))) ∧ (¬ (xs ((x_3 + (3 : Int32))).toNatClampNeg) = 0 → (w_X9_chance (xs ((x_3 + (1 : Int32))).toNatClampNeg) (xs ((x_3 + (2 : Int32))).toNatClampNeg) (1 : Int32) σ (fun (r168 : Int64) (σ167 : zSto) => (vp_in (x_3 + (1 : Int32)) L ∧ (vp_in (x_3 + (2 : Int32)) L ∧ (vp_in (x_3 + (3 : Int32)) L ∧ (((xs ((x_3 + (3 : Int32))).toNatClampNeg) = 0 → (w_X10_chance (xs ((x_3 + (1 : Int32))).toNatClampNeg) (xs ((x_3 + (2 : Int32))).toNatClampNeg) (0 : Int32) σ167 (fun (r173 : Int64) (σ172 : zSto) => (∀ x174 : Int32, x174 = (x_3 + (6 : Int32)) → w_law_18 L xs n x174 σ172)))) ∧ (¬ (xs ((x_3 + (3 : Int32))).toNatClampNeg) = 0 → (w_X10_chance (xs ((x_3 + (1 : Int32))).toNatClampNeg) (xs ((x_3 + (2 : Int32))).toNatClampNeg) (1 : Int32) σ167 (fun (r176 : Int64) (σ175 : zSto) => (∀ x177 : Int32, x177 = (x_3 + (6 : Int32)) → w_law_18 L xs n x177 σ175)))))))))))))))) ∧ (((xs (x_3).toNatClampNeg) &&& (63 : Int32)) = 14 → (vp_in (x_3 + (1 : Int32)) L ∧ (vp_in (x_3 + (2 : Int32)) L ∧ (w_X9_slack (xs ((x_3 + (1 : Int32))).toNatClampNeg) (xs ((x_3 + (2 : Int32))).toNatClampNeg) σ (fun (r181 : Int32) (σ180 : zSto) => (vp_in (x_3 + (1 : Int32)) L ∧ (vp_in (x_3 + (2 : Int32)) L ∧ (w_X10_slack (xs ((x_3 + (1 : Int32))).toNatClampNeg) (xs ((x_3 + (2 : Int32))).toNatClampNeg) σ180 (fun (r185 : Int32) (σ184 : zSto) => (∀ x186 : Int32, x186 = (x_3 + (6 : Int32)) → w_law_18 L xs n x186 σ184)))))))))) ∧ (((xs (x_3).toNatClampNeg) &&& (63 : Int32)) = 15 → (vp_in (x_3 + (1 : Int32)) L ∧ (vp_in (x_3 + (2 : Int32)) L ∧ (vp_in (x_3 + (3 : Int32)) L ∧ (vp_in (x_3 + (4 : Int32)) L ∧ (vp_in (x_3 + (5 : Int32)) L ∧ (w_X9_shells (xs ((x_3 + (1 : Int32))).toNatClampNeg) (xs ((x_3 + (2 : Int32))).toNatClampNeg) (xs ((x_3 + (3 : Int32))).toNatClampNeg) (xs ((x_3 + (4 : Int32))).toNatClampNeg) (xs ((x_3 + (5 : Int32))).toNatClampNeg) σ (fun (r193 : Int32) (σ192 : zSto) => (vp_in (x_3 + (1 : Int32)) L ∧ (vp_in (x_3 + (2 : Int32)) L ∧ (vp_in (x_3 + (3 : Int32)) L ∧ (vp_in (x_3 + (4 : Int32)) L ∧ (vp_in (x_3 + (5 : Int32)) L ∧ (w_X10_shells (xs ((x_3 + (1 : Int32))).toNatClampNeg) (xs ((x_3 + (2 : Int32))).toNatClampNeg) (xs ((x_3 + (3 : Int32))).toNatClampNeg) (xs ((x_3 + (4 : Int32))).toNatClampNeg) (xs ((x_3 + (5 : Int32))).toNatClampNeg) σ192 (fun (r200 : Int32) (σ199 : zSto) => (∀ x201 : Int32, x201 = (x_3 + (6 : Int32)) → w_law_18 L xs n x201 σ199)))))))))))))))) ∧ (((xs (x_3).toNatClampNeg) &&& (63 : Int32)) = 16 → (vp_in (x_3 + (1 : Int32)) L ∧ (vp_in (x_3 + (2 : Int32)) L ∧ (vp_in (x_3 + (3 : Int32)) L ∧ (vp_in (x_3 + (4 : Int32)) L ∧ (vp_in (x_3 + (5 : Int32)) L ∧ (w_X9_meet (xs ((x_3 + (1 : Int32))).toNatClampNeg) (xs ((x_3 + (2 : Int32))).toNatClampNeg) (xs ((x_3 + (3 : Int32))).toNatClampNeg) (xs ((x_3 + (4 : Int32))).toNatClampNeg) (xs ((x_3 + (5 : Int32))).toNatClampNeg) σ (fun (r208 : Int32) (σ207 : zSto) => (vp_in (x_3 + (1 : Int32)) L ∧ (vp_in (x_3 + (2 : Int32)) L ∧ (vp_in (x_3 + (3 : Int32)) L ∧ (vp_in (x_3 + (4 : Int32)) L ∧ (vp_in (x_3 + (5 : Int32)) L ∧ (w_X10_meet (xs ((x_3 + (1 : Int32))).toNatClampNeg) (xs ((x_3 + (2 : Int32))).toNatClampNeg) (xs ((x_3 + (3 : Int32))).toNatClampNeg) (xs ((x_3 + (4 : Int32))).toNatClampNeg) (xs ((x_3 + (5 : Int32))).toNatClampNeg) σ207 (fun (r215 : Int32) (σ214 : zSto) => (∀ x216 : Int32, x216 = (x_3 + (6 : Int32)) → w_law_18 L xs n x216 σ214)))))))))))))))) ∧ (((xs (x_3).toNatClampNeg) &&& (63 : Int32)) = 17 → (vp_in (x_3 + (1 : Int32)) L ∧ (vp_in (x_3 + (2 : Int32)) L ∧ (vp_in (x_3 + (3 : Int32)) L ∧ (w_X9_pull (xs ((x_3 + (1 : Int32))).toNatClampNeg) (xs ((x_3 + (2 : Int32))).toNatClampNeg) (xs ((x_3 + (3 : Int32))).toNatClampNeg) σ (fun (r221 : Int32) (σ220 : zSto) => (vp_in (x_3 + (1 : Int32)) L ∧ (vp_in (x_3 + (2 : Int32)) L ∧ (vp_in (x_3 + (3 : Int32)) L ∧ (w_X10_pull (xs ((x_3 + (1 : Int32))).toNatClampNeg) (xs ((x_3 + (2 : Int32))).toNatClampNeg) (xs ((x_3 + (3 : Int32))).toNatClampNeg) σ220 (fun (r226 : Int32) (σ225 : zSto) => (∀ x227 : Int32, x227 = (x_3 + (6 : Int32)) → w_law_18 L xs n x227 σ225)))))))))))) ∧ (((xs (x_3).toNatClampNeg) &&& (63 : Int32)) = 18 → (vp_in (x_3 + (1 : Int32)) L ∧ (vp_in (x_3 + (2 : Int32)) L ∧ (vp_in (x_3 + (3 : Int32)) L ∧ (vp_in (x_3 + (4 : Int32)) L ∧ (w_X9_played (xs ((x_3 + (1 : Int32))).toNatClampNeg) (xs ((x_3 + (2 : Int32))).toNatClampNeg) (xs ((x_3 + (3 : Int32))).toNatClampNeg) (xs ((x_3 + (4 : Int32))).toNatClampNeg) σ (fun (r233 : Int32) (σ232 : zSto) => (vp_in (x_3 + (1 : Int32)) L ∧ (vp_in (x_3 + (2 : Int32)) L ∧ (vp_in (x_3 + (3 : Int32)) L ∧ (vp_in (x_3 + (4 : Int32)) L ∧ (w_X10_played (xs ((x_3 + (1 : Int32))).toNatClampNeg) (xs ((x_3 + (2 : Int32))).toNatClampNeg) (xs ((x_3 + (3 : Int32))).toNatClampNeg) (xs ((x_3 + (4 : Int32))).toNatClampNeg) σ232 (fun (r239 : Int32) (σ238 : zSto) => (∀ x240 : Int32, x240 = (x_3 + (6 : Int32)) → w_law_18 L xs n x240 σ238)))))))))))))) ∧ (((xs (x_3).toNatClampNeg) &&& (63 : Int32)) = 19 → (vp_in (x_3 + (1 : Int32)) L ∧ (vp_in (x_3 + (2 : Int32)) L ∧ (vp_in (x_3 + (3 : Int32)) L ∧ (w_X9_print (xs ((x_3 + (1 : Int32))).toNatClampNeg) (xs ((x_3 + (2 : Int32))).toNatClampNeg) (xs ((x_3 + (3 : Int32))).toNatClampNeg) σ (fun (r245 : Int32) (σ244 : zSto) => (vp_in (x_3 + (1 : Int32)) L ∧ (vp_in (x_3 + (2 : Int32)) L ∧ (vp_in (x_3 + (3 : Int32)) L ∧ (w_X10_print (xs ((x_3 + (1 : Int32))).toNatClampNeg) (xs ((x_3 + (2 : Int32))).toNatClampNeg) (xs ((x_3 + (3 : Int32))).toNatClampNeg) σ244 (fun (r250 : Int32) (σ249 : zSto) => (∀ x251 : Int32, x251 = (x_3 + (6 : Int32)) → w_law_18 L xs n x251 σ249)))))))))))) ∧ (((xs (x_3).toNatClampNeg) &&& (63 : Int32)) = 20 → (vp_in (x_3 + (1 : Int32)) L ∧ (vp_in (x_3 + (2 : Int32)) L ∧ (vp_in (x_3 + (3 : Int32)) L ∧ (vp_in (x_3 + (4 : Int32)) L ∧ (((xs ((x_3 + (4 : Int32))).toNatClampNeg) = 0 → (w_X9_most (xs ((x_3 + (1 : Int32))).toNatClampNeg) (xs ((x_3 + (2 : Int32))).toNatClampNeg) (xs ((x_3 + (3 : Int32))).toNatClampNeg) (0 : Int32) σ (fun (r257 : Int32) (σ256 : zSto) => (vp_in (x_3 + (1 : Int32)) L ∧ (vp_in (x_3 + (2 : Int32)) L ∧ (vp_in (x_3 + (3 : Int32)) L ∧ (vp_in (x_3 + (4 : Int32)) L ∧ (((xs ((x_3 + (4 : Int32))).toNatClampNeg) = 0 → (w_X10_most (xs ((x_3 + (1 : Int32))).toNatClampNeg) (xs ((x_3 + (2 : Int32))).toNatClampNeg) (xs ((x_3 + (3 : Int32))).toNatClampNeg) (0 : Int32) σ256 (fun (r263 : Int32) (σ262 : zSto) => (∀ x264 : Int32, x264 = (x_3 + (6 : Int32)) → w_law_18 L xs n x264 σ262)))) ∧ (¬ (xs ((x_3 + (4 : Int32))).toNatClampNeg) = 0 → (w_X10_most (xs ((x_3 + (1 : Int32))).toNatClampNeg) (xs ((x_3 + (2 : Int32))).toNatClampNeg) (xs ((x_3 + (3 : Int32))).toNatClampNeg) (1 : Int32) σ256 (fun (r266 : Int32) (σ265 : zSto) => (∀ x267 : Int32, x267 = (x_3 + (6 : Int32)) → w_law_18 L xs n x267 σ265)))))))))))) ∧ (¬ (xs ((x_3 + (4 : Int32))).toNatClampNeg) = 0 → (w_X9_most (xs ((x_3 + (1 : Int32))).toNatClampNeg) (xs ((x_3 + (2 : Int32))).toNatClampNeg) (xs ((x_3 + (3 : Int32))).toNatClampNeg) (1 : Int32) σ (fun (r269 : Int32) (σ268 : zSto) => (vp_in (x_3 + (1 : Int32)) L ∧ (vp_in (x_3 + (2 : Int32)) L ∧ (vp_in (x_3 + (3 : Int32)) L ∧ (vp_in (x_3 + (4 : Int32)) L ∧ (((xs ((x_3 + (4 : Int32))).toNatClampNeg) = 0 → (w_X10_most (xs ((x_3 + (1 : Int32))).toNatClampNeg) (xs ((x_3 + (2 : Int32))).toNatClampNeg) (xs ((x_3 + (3 : Int32))).toNatClampNeg) (0 : Int32) σ268 (fun (r275 : Int32) (σ274 : zSto) => (∀ x276 : Int32, x276 = (x_3 + (6 : Int32)) → w_law_18 L xs n x276 σ274)))) ∧ (¬ (xs ((x_3 + (4 : Int32))).toNatClampNeg) = 0 → (w_X10_most (xs ((x_3 + (1 : Int32))).toNatClampNeg) (xs ((x_3 + (2 : Int32))).toNatClampNeg) (xs ((x_3 + (3 : Int32))).toNatClampNeg) (1 : Int32) σ268 (fun (r278 : Int32) (σ277 : zSto) => (∀ x279 : Int32, x279 = (x_3 + (6 : Int32)) → w_law_18 L xs n x279 σ277)))))))))))))))))) ∧ (((xs (x_3).toNatClampNeg) &&& (63 : Int32)) = 21 → (vp_in (x_3 + (1 : Int32)) L ∧ (vp_in (x_3 + (2 : Int32)) L ∧ (vp_in (x_3 + (3 : Int32)) L ∧ (vp_in (x_3 + (4 : Int32)) L ∧ (((xs ((x_3 + (4 : Int32))).toNatClampNeg) = 0 → (w_X9_weeks (xs ((x_3 + (1 : Int32))).toNatClampNeg) (xs ((x_3 + (2 : Int32))).toNatClampNeg) (xs ((x_3 + (3 : Int32))).toNatClampNeg) (0 : Int32) σ (fun (r285 : Int32) (σ284 : zSto) => (vp_in (x_3 + (1 : Int32)) L ∧ (vp_in (x_3 + (2 : Int32)) L ∧ (vp_in (x_3 + (3 : Int32)) L ∧ (vp_in (x_3 + (4 : Int32)) L ∧ (((xs ((x_3 + (4 : Int32))).toNatClampNeg) = 0 → (w_X10_weeks (xs ((x_3 + (1 : Int32))).toNatClampNeg) (xs ((x_3 + (2 : Int32))).toNatClampNeg) (xs ((x_3 + (3 : Int32))).toNatClampNeg) (0 : Int32) σ284 (fun (r291 : Int32) (σ290 : zSto) => (∀ x292 : Int32, x292 = (x_3 + (6 : Int32)) → w_law_18 L xs n x292 σ290)))) ∧ (¬ (xs ((x_3 + (4 : Int32))).toNatClampNeg) = 0 → (w_X10_weeks (xs ((x_3 + (1 : Int32))).toNatClampNeg) (xs ((x_3 + (2 : Int32))).toNatClampNeg) (xs ((x_3 + (3 : Int32))).toNatClampNeg) (1 : Int32) σ284 (fun (r294 : Int32) (σ293 : zSto) => (∀ x295 : Int32, x295 = (x_3 + (6 : Int32)) → w_law_18 L xs n x295 σ293)))))))))))) ∧ (¬ (xs ((x_3 + (4 : Int32))).toNatClampNeg) = 0 → (w_X9_weeks (xs ((x_3 + (1 : Int32))).toNatClampNeg) (xs ((x_3 + (2 : Int32))).toNatClampNeg) (xs ((x_3 + (3 : Int32))).toNatClampNeg) (1 : Int32) σ (fun (r297 : Int32) (σ296 : zSto) => (vp_in (x_3 + (1 : Int32)) L ∧ (vp_in (x_3 + (2 : Int32)) L ∧ (vp_in (x_3 + (3 : Int32)) L ∧ (vp_in (x_3 + (4 : Int32)) L ∧ (((xs ((x_3 + (4 : Int32))).toNatClampNeg) = 0 → (w_X10_weeks (xs ((x_3 + (1 : Int32))).toNatClampNeg) (xs ((x_3 + (2 : Int32))).toNatClampNeg) (xs ((x_3 + (3 : Int32))).toNatClampNeg) (0 : Int32) σ296 (fun (r303 : Int32) (σ302 : zSto) => (∀ x304 : Int32, x304 = (x_3 + (6 : Int32)) → w_law_18 L xs n x304 σ302)))) ∧ (¬ (xs ((x_3 + (4 : Int32))).toNatClampNeg) = 0 → (w_X10_weeks (xs ((x_3 + (1 : Int32))).toNatClampNeg) (xs ((x_3 + (2 : Int32))).toNatClampNeg) (xs ((x_3 + (3 : Int32))).toNatClampNeg) (1 : Int32) σ296 (fun (r306 : Int32) (σ305 : zSto) => (∀ x307 : Int32, x307 = (x_3 + (6 : Int32)) → w_law_18 L xs n x307 σ305)))))))))))))))))) ∧ (((xs (x_3).toNatClampNeg) &&& (63 : Int32)) = 22 → (vp_in (x_3 + (1 : Int32)) L ∧ (vp_in (x_3 + (2 : Int32)) L ∧ (vp_in (x_3 + (3 : Int32)) L ∧ (w_X9_calm (xs ((x_3 + (1 : Int32))).toNatClampNeg) (xs ((x_3 + (2 : Int32))).toNatClampNeg) (xs ((x_3 + (3 : Int32))).toNatClampNeg) σ (fun (r312 : Int32) (σ311 : zSto) => (vp_in (x_3 + (1 : Int32)) L ∧ (vp_in (x_3 + (2 : Int32)) L ∧ (vp_in (x_3 + (3 : Int32)) L ∧ (w_X10_calm (xs ((x_3 + (1 : Int32))).toNatClampNeg) (xs ((x_3 + (2 : Int32))).toNatClampNeg) (xs ((x_3 + (3 : Int32))).toNatClampNeg) σ311 (fun (r317 : Int32) (σ316 : zSto) => (∀ x318 : Int32, x318 = (x_3 + (6 : Int32)) → w_law_18 L xs n x318 σ316)))))))))))) ∧ (((xs (x_3).toNatClampNeg) &&& (63 : Int32)) = 23 → (vp_in (x_3 + (1 : Int32)) L ∧ (vp_in (x_3 + (2 : Int32)) L ∧ (vp_in (x_3 + (3 : Int32)) L ∧ (vp_in (x_3 + (4 : Int32)) L ∧ (vp_in (x_3 + (5 : Int32)) L ∧ (((xs ((x_3 + (5 : Int32))).toNatClampNeg) = 0 → (w_X9_rich (xs ((x_3 + (1 : Int32))).toNatClampNeg) (xs ((x_3 + (2 : Int32))).toNatClampNeg) (xs ((x_3 + (3 : Int32))).toNatClampNeg) (xs ((x_3 + (4 : Int32))).toNatClampNeg) (0 : Int32) σ (fun (r325 : Int32) (σ324 : zSto) => (vp_in (x_3 + (1 : Int32)) L ∧ (vp_in (x_3 + (2 : Int32)) L ∧ (vp_in (x_3 + (3 : Int32)) L ∧ (vp_in (x_3 + (4 : Int32)) L ∧ (vp_in (x_3 + (5 : Int32)) L ∧ (((xs ((x_3 + (5 : Int32))).toNatClampNeg) = 0 → (w_X10_rich (xs ((x_3 + (1 : Int32))).toNatClampNeg) (xs ((x_3 + (2 : Int32))).toNatClampNeg) (xs ((x_3 + (3 : Int32))).toNatClampNeg) (xs ((x_3 + (4 : Int32))).toNatClampNeg) (0 : Int32) σ324 (fun (r332 : Int32) (σ331 : zSto) => (∀ x333 : Int32, x333 = (x_3 + (6 : Int32)) → w_law_18 L xs n x333 σ331)))) ∧ (¬ (xs ((x_3 + (5 : Int32))).toNatClampNeg) = 0 → (w_X10_rich (xs ((x_3 + (1 : Int32))).toNatClampNeg) (xs ((x_3 + (2 : Int32))).toNatClampNeg) (xs ((x_3 + (3 : Int32))).toNatClampNeg) (xs ((x_3 + (4 : Int32))).toNatClampNeg) (1 : Int32) σ324 (fun (r335 : Int32) (σ334 : zSto) => (∀ x336 : Int32, x336 = (x_3 + (6 : Int32)) → w_law_18 L xs n x336 σ334))))))))))))) ∧ (¬ (xs ((x_3 + (5 : Int32))).toNatClampNeg) = 0 → (w_X9_rich (xs ((x_3 + (1 : Int32))).toNatClampNeg) (xs ((x_3 + (2 : Int32))).toNatClampNeg) (xs ((x_3 + (3 : Int32))).toNatClampNeg) (xs ((x_3 + (4 : Int32))).toNatClampNeg) (1 : Int32) σ (fun (r338 : Int32) (σ337 : zSto) => (vp_in (x_3 + (1 : Int32)) L ∧ (vp_in (x_3 + (2 : Int32)) L ∧ (vp_in (x_3 + (3 : Int32)) L ∧ (vp_in (x_3 + (4 : Int32)) L ∧ (vp_in (x_3 + (5 : Int32)) L ∧ (((xs ((x_3 + (5 : Int32))).toNatClampNeg) = 0 → (w_X10_rich (xs ((x_3 + (1 : Int32))).toNatClampNeg) (xs ((x_3 + (2 : Int32))).toNatClampNeg) (xs ((x_3 + (3 : Int32))).toNatClampNeg) (xs ((x_3 + (4 : Int32))).toNatClampNeg) (0 : Int32) σ337 (fun (r345 : Int32) (σ344 : zSto) => (∀ x346 : Int32, x346 = (x_3 + (6 : Int32)) → w_law_18 L xs n x346 σ344)))) ∧ (¬ (xs ((x_3 + (5 : Int32))).toNatClampNeg) = 0 → (w_X10_rich (xs ((x_3 + (1 : Int32))).toNatClampNeg) (xs ((x_3 + (2 : Int32))).toNatClampNeg) (xs ((x_3 + (3 : Int32))).toNatClampNeg) (xs ((x_3 + (4 : Int32))).toNatClampNeg) (1 : Int32) σ337 (fun (r348 : Int32) (σ347 : zSto) => (∀ x349 : Int32, x349 = (x_3 + (6 : Int32)) → w_law_18 L xs n x349 σ347)))))))))))))))))))) ∧ (((xs (x_3).toNatClampNeg) &&& (63 : Int32)) = 24 → (vp_in (x_3 + (1 : Int32)) L ∧ (vp_in (x_3 + (2 : Int32)) L ∧ (vp_in (x_3 + (3 : Int32)) L ∧ (vp_in (x_3 + (4 : Int32)) L ∧ (vp_in (x_3 + (5 : Int32)) L ∧ (w_X9_lots (xs ((x_3 + (1 : Int32))).toNatClampNeg) (xs ((x_3 + (2 : Int32))).toNatClampNeg) (xs ((x_3 + (3 : Int32))).toNatClampNeg) (xs ((x_3 + (4 : Int32))).toNatClampNeg) (xs ((x_3 + (5 : Int32))).toNatClampNeg) σ (fun (r356 : Int32) (σ355 : zSto) => (vp_in (x_3 + (1 : Int32)) L ∧ (vp_in (x_3 + (2 : Int32)) L ∧ (vp_in (x_3 + (3 : Int32)) L ∧ (vp_in (x_3 + (4 : Int32)) L ∧ (vp_in (x_3 + (5 : Int32)) L ∧ (w_X10_lots (xs ((x_3 + (1 : Int32))).toNatClampNeg) (xs ((x_3 + (2 : Int32))).toNatClampNeg) (xs ((x_3 + (3 : Int32))).toNatClampNeg) (xs ((x_3 + (4 : Int32))).toNatClampNeg) (xs ((x_3 + (5 : Int32))).toNatClampNeg) σ355 (fun (r363 : Int32) (σ362 : zSto) => (∀ x364 : Int32, x364 = (x_3 + (6 : Int32)) → w_law_18 L xs n x364 σ362)))))))))))))))) ∧ (((xs (x_3).toNatClampNeg) &&& (63 : Int32)) = 25 → (vp_in (x_3 + (1 : Int32)) L ∧ (vp_in (x_3 + (2 : Int32)) L ∧ (vp_in (x_3 + (3 : Int32)) L ∧ (w_X9_seen (xs ((x_3 + (1 : Int32))).toNatClampNeg) (xs ((x_3 + (2 : Int32))).toNatClampNeg) (xs ((x_3 + (3 : Int32))).toNatClampNeg) σ (fun (r369 : Int32) (σ368 : zSto) => (vp_in (x_3 + (1 : Int32)) L ∧ (vp_in (x_3 + (2 : Int32)) L ∧ (vp_in (x_3 + (3 : Int32)) L ∧ (w_X10_seen (xs ((x_3 + (1 : Int32))).toNatClampNeg) (xs ((x_3 + (2 : Int32))).toNatClampNeg) (xs ((x_3 + (3 : Int32))).toNatClampNeg) σ368 (fun (r374 : Int32) (σ373 : zSto) => (∀ x375 : Int32, x375 = (x_3 + (6 : Int32)) → w_law_18 L xs n x375 σ373)))))))))))) ∧ (((xs (x_3).toNatClampNeg) &&& (63 : Int32)) = 26 → (vp_in (x_3 + (1 : Int32)) L ∧ (vp_in (x_3 + (2 : Int32)) L ∧ (vp_in (x_3 + (3 : Int32)) L ∧ (w_X9_hold (xs ((x_3 + (1 : Int32))).toNatClampNeg) (xs ((x_3 + (2 : Int32))).toNatClampNeg) (xs ((x_3 + (3 : Int32))).toNatClampNeg) σ (fun (r380 : Int32) (σ379 : zSto) => (vp_in (x_3 + (1 : Int32)) L ∧ (vp_in (x_3 + (2 : Int32)) L ∧ (vp_in (x_3 + (3 : Int32)) L ∧ (w_X10_hold (xs ((x_3 + (1 : Int32))).toNatClampNeg) (xs ((x_3 + (2 : Int32))).toNatClampNeg) (xs ((x_3 + (3 : Int32))).toNatClampNeg) σ379 (fun (r385 : Int32) (σ384 : zSto) => ((r380 = r385 → (∀ x386 : Int32, x386 = (x_3 + (6 : Int32)) → w_law_18 L xs n x386 σ384)) ∧ (¬ r380 = r385 → False))))))))))))) ∧ (((xs (x_3).toNatClampNeg) &&& (63 : Int32)) = 27 → (vp_in (x_3 + (1 : Int32)) L ∧ (vp_in (x_3 + (2 : Int32)) L ∧ (w_X9_risk (xs ((x_3 + (1 : Int32))).toNatClampNeg) (xs ((x_3 + (2 : Int32))).toNatClampNeg) σ (fun (r390 : Int32) (σ389 : zSto) => (vp_in (x_3 + (1 : Int32)) L ∧ (vp_in (x_3 + (2 : Int32)) L ∧ (w_X10_risk (xs ((x_3 + (1 : Int32))).toNatClampNeg) (xs ((x_3 + (2 : Int32))).toNatClampNeg) σ389 (fun (r394 : Int32) (σ393 : zSto) => (∀ x395 : Int32, x395 = (x_3 + (6 : Int32)) → w_law_18 L xs n x395 σ393)))))))))) ∧ (((xs (x_3).toNatClampNeg) &&& (63 : Int32)) = 28 → (vp_in (x_3 + (1 : Int32)) L ∧ (vp_in (x_3 + (2 : Int32)) L ∧ (vp_in (x_3 + (3 : Int32)) L ∧ (vp_in (x_3 + (4 : Int32)) L ∧ (((xs ((x_3 + (4 : Int32))).toNatClampNeg) = 0 → (w_X9_vote (xs ((x_3 + (1 : Int32))).toNatClampNeg) (xs ((x_3 + (2 : Int32))).toNatClampNeg) (xs ((x_3 + (3 : Int32))).toNatClampNeg) (0 : Int32) σ (fun (r401 : Int32) (σ400 : zSto) => (vp_in (x_3 + (1 : Int32)) L ∧ (vp_in (x_3 + (2 : Int32)) L ∧ (vp_in (x_3 + (3 : Int32)) L ∧ (vp_in (x_3 + (4 : Int32)) L ∧ (((xs ((x_3 + (4 : Int32))).toNatClampNeg) = 0 → (w_X10_vote (xs ((x_3 + (1 : Int32))).toNatClampNeg) (xs ((x_3 + (2 : Int32))).toNatClampNeg) (xs ((x_3 + (3 : Int32))).toNatClampNeg) (0 : Int32) σ400 (fun (r407 : Int32) (σ406 : zSto) => (∀ x408 : Int32, x408 = (x_3 + (6 : Int32)) → w_law_18 L xs n x408 σ406)))) ∧ (¬ (xs ((x_3 + (4 : Int32))).toNatClampNeg) = 0 → (w_X10_vote (xs ((x_3 + (1 : Int32))).toNatClampNeg) (xs ((x_3 + (2 : Int32))).toNatClampNeg) (xs ((x_3 + (3 : Int32))).toNatClampNeg) (1 : Int32) σ400 (fun (r410 : Int32) (σ409 : zSto) => (∀ x411 : Int32, x411 = (x_3 + (6 : Int32)) → w_law_18 L xs n x411 σ409)))))))))))) ∧ (¬ (xs ((x_3 + (4 : Int32))).toNatClampNeg) = 0 → (w_X9_vote (xs ((x_3 + (1 : Int32))).toNatClampNeg) (xs ((x_3 + (2 : Int32))).toNatClampNeg) (xs ((x_3 + (3 : Int32))).toNatClampNeg) (1 : Int32) σ (fun (r413 : Int32) (σ412 : zSto) => (vp_in (x_3 + (1 : Int32)) L ∧ (vp_in (x_3 + (2 : Int32)) L ∧ (vp_in (x_3 + (3 : Int32)) L ∧ (vp_in (x_3 + (4 : Int32)) L ∧ (((xs ((x_3 + (4 : Int32))).toNatClampNeg) = 0 → (w_X10_vote (xs ((x_3 + (1 : Int32))).toNatClampNeg) (xs ((x_3 + (2 : Int32))).toNatClampNeg) (xs ((x_3 + (3 : Int32))).toNatClampNeg) (0 : Int32) σ412 (fun (r419 : Int32) (σ418 : zSto) => (∀ x420 : Int32, x420 = (x_3 + (6 : Int32)) → w_law_18 L xs n x420 σ418)))) ∧ (¬ (xs ((x_3 + (4 : Int32))).toNatClampNeg) = 0 → (w_X10_vote (xs ((x_3 + (1 : Int32))).toNatClampNeg) (xs ((x_3 + (2 : Int32))).toNatClampNeg) (xs ((x_3 + (3 : Int32))).toNatClampNeg) (1 : Int32) σ412 (fun (r422 : Int32) (σ421 : zSto) => (∀ x423 : Int32, x423 = (x_3 + (6 : Int32)) → w_law_18 L xs n x423 σ421)))))))))))))))))) ∧ (((xs (x_3).toNatClampNeg) &&& (63 : Int32)) = 29 → (vp_in (x_3 + (1 : Int32)) L ∧ (vp_in (x_3 + (2 : Int32)) L ∧ (vp_in (x_3 + (3 : Int32)) L ∧ (vp_in (x_3 + (4 : Int32)) L ∧ (vp_in (x_3 + (5 : Int32)) L ∧ (w_X9_left (xs ((x_3 + (1 : Int32))).toNatClampNeg) (xs ((x_3 + (2 : Int32))).toNatClampNeg) (xs ((x_3 + (3 : Int32))).toNatClampNeg) (xs ((x_3 + (4 : Int32))).toNatClampNeg) (xs ((x_3 + (5 : Int32))).toNatClampNeg) σ (fun (r430 : Int32) (σ429 : zSto) => (vp_in (x_3 + (1 : Int32)) L ∧ (vp_in (x_3 + (2 : Int32)) L ∧ (vp_in (x_3 + (3 : Int32)) L ∧ (vp_in (x_3 + (4 : Int32)) L ∧ (vp_in (x_3 + (5 : Int32)) L ∧ (w_X10_left (xs ((x_3 + (1 : Int32))).toNatClampNeg) (xs ((x_3 + (2 : Int32))).toNatClampNeg) (xs ((x_3 + (3 : Int32))).toNatClampNeg) (xs ((x_3 + (4 : Int32))).toNatClampNeg) (xs ((x_3 + (5 : Int32))).toNatClampNeg) σ429 (fun (r437 : Int32) (σ436 : zSto) => (∀ x438 : Int32, x438 = (x_3 + (6 : Int32)) → w_law_18 L xs n x438 σ436)))))))))))))))) ∧ (((xs (x_3).toNatClampNeg) &&& (63 : Int32)) = 30 → (vp_in (x_3 + (1 : Int32)) L ∧ (vp_in (x_3 + (2 : Int32)) L ∧ (vp_in (x_3 + (3 : Int32)) L ∧ (vp_in (x_3 + (4 : Int32)) L ∧ (w_X9_bid (xs ((x_3 + (1 : Int32))).toNatClampNeg) (xs ((x_3 + (2 : Int32))).toNatClampNeg) (xs ((x_3 + (3 : Int32))).toNatClampNeg) (xs ((x_3 + (4 : Int32))).toNatClampNeg) σ (fun (r444 : Int32) (σ443 : zSto) => (vp_in (x_3 + (1 : Int32)) L ∧ (vp_in (x_3 + (2 : Int32)) L ∧ (vp_in (x_3 + (3 : Int32)) L ∧ (vp_in (x_3 + (4 : Int32)) L ∧ (w_X10_bid (xs ((x_3 + (1 : Int32))).toNatClampNeg) (xs ((x_3 + (2 : Int32))).toNatClampNeg) (xs ((x_3 + (3 : Int32))).toNatClampNeg) (xs ((x_3 + (4 : Int32))).toNatClampNeg) σ443 (fun (r450 : Int32) (σ449 : zSto) => (∀ x451 : Int32, x451 = (x_3 + (6 : Int32)) → w_law_18 L xs n x451 σ449)))))))))))))) ∧ (((xs (x_3).toNatClampNeg) &&& (63 : Int32)) = 31 → (vp_in (x_3 + (1 : Int32)) L ∧ (w_X9_count (xs ((x_3 + (1 : Int32))).toNatClampNeg) σ (fun (r454 : Int32) (σ453 : zSto) => (vp_in (x_3 + (1 : Int32)) L ∧ (w_X10_count (xs ((x_3 + (1 : Int32))).toNatClampNeg) σ453 (fun (r457 : Int32) (σ456 : zSto) => (∀ x458 : Int32, x458 = (x_3 + (6 : Int32)) → w_law_18 L xs n x458 σ456)))))))) ∧ (((xs (x_3).toNatClampNeg) &&& (63 : Int32)) = 32 → (vp_in (x_3 + (1 : Int32)) L ∧ (w_X9_image (xs ((x_3 + (1 : Int32))).toNatClampNeg) σ (fun (r461 : Int32) (σ460 : zSto) => (r461 = 0 ∨ r461 = 1) → (vp_in (x_3 + (1 : Int32)) L ∧ (w_X10_image (xs ((x_3 + (1 : Int32))).toNatClampNeg) σ460 (fun (r464 : Int32) (σ463 : zSto) => (r464 = 0 ∨ r464 = 1) → (∀ x465 : Int32, x465 = (x_3 + (6 : Int32)) → w_law_18 L xs n x465 σ463)))))))) ∧ (((xs (x_3).toNatClampNeg) &&& (63 : Int32)) = 33 → (vp_in (x_3 + (1 : Int32)) L ∧ (w_X9_again (xs ((x_3 + (1 : Int32))).toNatClampNeg) σ (fun (r468 : Int32) (σ467 : zSto) => (r468 = 0 ∨ r468 = 1) → (vp_in (x_3 + (1 : Int32)) L ∧ (w_X10_again (xs ((x_3 + (1 : Int32))).toNatClampNeg) σ467 (fun (r471 : Int32) (σ470 : zSto) => (r471 = 0 ∨ r471 = 1) → (∀ x472 : Int32, x472 = (x_3 + (6 : Int32)) → w_law_18 L xs n x472 σ470)))))))) ∧ ((((xs (x_3).toNatClampNeg) &&& (63 : Int32)).toInt < 0 ∨ 33 < ((xs (x_3).toNatClampNeg) &&& (63 : Int32)).toInt) → (∀ x473 : Int32, x473 = (x_3 + (6 : Int32)) → w_law_18 L xs n x473 σ))))))
set_option maxRecDepth 100000 in
set_option maxHeartbeats 4000000 in
theorem k_law_18 {p : Program} {l : Launch} {e : Env} {s : State} {m : MethodId} {below : List Frame} {meth : Method} {c : Code} {D : va_G} {cy : Nat → ClassId} {g : Nat → Nat} {b L : Nat} {xs : Nat → Int32} (C : zC p s m #[Value.ref b] meth c cL_law RL 4 D cy g) (hr : meth.sig.returnType = ret) (hX : va_X b L xs s s.heap) (hbl : b < s.heap.size) (hbA : ¬ zA g s.heap.size b) (hgo : ∀ k, k < 250 → s.heap.size ≤ g k) : ∀ (n : Nat) (x_3 : Int32) (σ : zSto), w_law_18 L xs n x_3 σ → zX p l e room_1 s m #[Value.ref b] below meth c 250 14165 (lw_Z below #[Value.ref b] s) 4 D cy g 18 [(0, .ref b), (1, .ref (g 0)), (2, .ref (g 223)), (3, .int x_3)] [] σ := by
  intro n
  induction n with
  | zero => intro x_3 σ h; exact h.elim
  | succ n ih =>
    intro x_3 σ h
    unfold w_law_18 at h
    refine zx_iload_n C dL_law_18 3 rfl ?_
    refine zx_aload_n C dL_law_19 0 rfl ?_
    refine zx_slen C hX hbl hbA dL_law_20 ?_
    refine zx_bipush (v := (6 : Int32)) C dL_law_21 (by decide) ?_
    refine zx_isub C dL_law_23 ?_
    refine zx_icmp_gt C 1842 dL_law_24 (by decide) (fun q => ?_) (fun q => ?_)
    · replace h := h.1 q
      refine zx_iconst (v := (1 : Int32)) C dL_law_1842 (by decide) ?_
      exact zx_lawret C hr hgo dL_law_1843
    · replace h := h.2 q
      refine zx_aload_n C dL_law_27 0 rfl ?_
      refine zx_iload_n C dL_law_28 3 rfl ?_
      obtain ⟨bd1, h⟩ := h
      refine zx_sld C hX hbl hbA bd1 dL_law_29 ?_
      refine zx_bipush (v := (63 : Int32)) C dL_law_30 (by decide) ?_
      refine zx_iand C dL_law_32 ?_
      refine zsw (x := ((xs (x_3).toNatClampNeg) &&& (63 : Int32))) 33 (fun q => ?_) (fun i hi q => ?_)
      · replace h := h.2.2.2.2.2.2.2.2.2.2.2.2.2.2.2.2.2.2.2.2.2.2.2.2.2.2.2.2.2.2.2.2.2.2 q
        refine zx_tableOut C 1836 dL_law_33 q (by decide) ?_
        obtain ⟨x473, ex473⟩ : ∃ y : Int32, y = (x_3 + (6 : Int32)) := ⟨_, rfl⟩
        replace h := h x473 ex473
        refine zx_iinc (v := x473) (lv' := [(3, .int x473), (0, .ref b), (1, .ref (g 0)), (2, .ref (g 223))]) C dL_law_1836 3 rfl (by rw [ex473]; rfl) (by decide) rfl ?_
        refine zx_goto C 18 dL_law_1839 (by decide) ?_
        refine zx_lv (lv' := [(0, .ref b), (1, .ref (g 0)), (2, .ref (g 223)), (3, .int x473)]) [1, 2, 3, 0] rfl ?_
        exact ih x473 σ h
      · match i, hi, q with
        | 0, _, q =>
          replace h := h.1 q
          refine zx_tableIn C 184 (0 : Int32) q dL_law_33 (by decide) (by decide) rfl (by decide) ?_
          refine zx_aload_n C dL_law_184 1 rfl ?_
          refine zx_aload_n C dL_law_185 0 rfl ?_
          refine zx_iload_n C dL_law_186 3 rfl ?_
          refine zx_iconst (v := (1 : Int32)) C dL_law_187 (by decide) ?_
          refine zx_iadd C dL_law_188 ?_
          obtain ⟨bd2, h⟩ := h
          refine zx_sld C hX hbl hbA bd2 dL_law_189 ?_
          refine zx_aload_n C dL_law_190 0 rfl ?_
          refine zx_iload_n C dL_law_191 3 rfl ?_
          refine zx_iconst (v := (2 : Int32)) C dL_law_192 (by decide) ?_
          refine zx_iadd C dL_law_193 ?_
          obtain ⟨bd3, h⟩ := h
          refine zx_sld C hX hbl hbA bd3 dL_law_194 ?_
          refine zx_aload_n C dL_law_195 0 rfl ?_
          refine zx_iload_n C dL_law_196 3 rfl ?_
          refine zx_iconst (v := (3 : Int32)) C dL_law_197 (by decide) ?_
          refine zx_iadd C dL_law_198 ?_
          obtain ⟨bd4, h⟩ := h
          refine zx_sld C hX hbl hbA bd4 dL_law_199 ?_
          refine zx_aload_n C dL_law_200 0 rfl ?_
          refine zx_iload_n C dL_law_201 3 rfl ?_
          refine zx_iconst (v := (4 : Int32)) C dL_law_202 (by decide) ?_
          refine zx_iadd C dL_law_203 ?_
          obtain ⟨bd5, h⟩ := h
          refine zx_sld C hX hbl hbA bd5 dL_law_204 ?_
          refine zx_aload_n C dL_law_205 0 rfl ?_
          refine zx_iload_n C dL_law_206 3 rfl ?_
          refine zx_iconst (v := (5 : Int32)) C dL_law_207 (by decide) ?_
          refine zx_iadd C dL_law_208 ?_
          obtain ⟨bd6, h⟩ := h
          refine zx_sld C hX hbl hbA bd6 dL_law_209 ?_
          refine zx_cVi C [.int (xs ((x_3 + (1 : Int32))).toNatClampNeg), .int (xs ((x_3 + (2 : Int32))).toNatClampNeg), .int (xs ((x_3 + (3 : Int32))).toNatClampNeg), .int (xs ((x_3 + (4 : Int32))).toNatClampNeg), .int (xs ((x_3 + (5 : Int32))).toNatClampNeg)] lk_L_13 (c_X9_feed l D cy g (xs ((x_3 + (1 : Int32))).toNatClampNeg) (xs ((x_3 + (2 : Int32))).toNatClampNeg) (xs ((x_3 + (3 : Int32))).toNatClampNeg) (xs ((x_3 + (4 : Int32))).toNatClampNeg) (xs ((x_3 + (5 : Int32))).toNatClampNeg)  σ h) zs_0 rfl ⟨by decide, by decide⟩ ⟨rfl, rfl⟩ ⟨by decide, by decide⟩ rfl rfl (Nat.le_of_ble_eq_true rfl) dL_law_210 (fun r8 σ7 h => ?_)
          refine zx_pop C dL_law_213 rfl ?_
          refine zx_aload_n C dL_law_214 2 rfl ?_
          refine zx_aload_n C dL_law_215 0 rfl ?_
          refine zx_iload_n C dL_law_216 3 rfl ?_
          refine zx_iconst (v := (1 : Int32)) C dL_law_217 (by decide) ?_
          refine zx_iadd C dL_law_218 ?_
          obtain ⟨bd9, h⟩ := h
          refine zx_sld C hX hbl hbA bd9 dL_law_219 ?_
          refine zx_aload_n C dL_law_220 0 rfl ?_
          refine zx_iload_n C dL_law_221 3 rfl ?_
          refine zx_iconst (v := (2 : Int32)) C dL_law_222 (by decide) ?_
          refine zx_iadd C dL_law_223 ?_
          obtain ⟨bd10, h⟩ := h
          refine zx_sld C hX hbl hbA bd10 dL_law_224 ?_
          refine zx_aload_n C dL_law_225 0 rfl ?_
          refine zx_iload_n C dL_law_226 3 rfl ?_
          refine zx_iconst (v := (3 : Int32)) C dL_law_227 (by decide) ?_
          refine zx_iadd C dL_law_228 ?_
          obtain ⟨bd11, h⟩ := h
          refine zx_sld C hX hbl hbA bd11 dL_law_229 ?_
          refine zx_aload_n C dL_law_230 0 rfl ?_
          refine zx_iload_n C dL_law_231 3 rfl ?_
          refine zx_iconst (v := (4 : Int32)) C dL_law_232 (by decide) ?_
          refine zx_iadd C dL_law_233 ?_
          obtain ⟨bd12, h⟩ := h
          refine zx_sld C hX hbl hbA bd12 dL_law_234 ?_
          refine zx_aload_n C dL_law_235 0 rfl ?_
          refine zx_iload_n C dL_law_236 3 rfl ?_
          refine zx_iconst (v := (5 : Int32)) C dL_law_237 (by decide) ?_
          refine zx_iadd C dL_law_238 ?_
          obtain ⟨bd13, h⟩ := h
          refine zx_sld C hX hbl hbA bd13 dL_law_239 ?_
          refine zx_cVi C [.int (xs ((x_3 + (1 : Int32))).toNatClampNeg), .int (xs ((x_3 + (2 : Int32))).toNatClampNeg), .int (xs ((x_3 + (3 : Int32))).toNatClampNeg), .int (xs ((x_3 + (4 : Int32))).toNatClampNeg), .int (xs ((x_3 + (5 : Int32))).toNatClampNeg)] lk_L_17 (c_X10_feed l D cy g (xs ((x_3 + (1 : Int32))).toNatClampNeg) (xs ((x_3 + (2 : Int32))).toNatClampNeg) (xs ((x_3 + (3 : Int32))).toNatClampNeg) (xs ((x_3 + (4 : Int32))).toNatClampNeg) (xs ((x_3 + (5 : Int32))).toNatClampNeg)  σ7 h) zs_223 rfl ⟨by decide, by decide⟩ ⟨rfl, rfl⟩ ⟨by decide, by decide⟩ rfl rfl (Nat.le_of_ble_eq_true rfl) dL_law_240 (fun r15 σ14 h => ?_)
          refine zx_pop C dL_law_243 rfl ?_
          refine zx_goto C 1836 dL_law_244 (by decide) ?_
          obtain ⟨x16, ex16⟩ : ∃ y : Int32, y = (x_3 + (6 : Int32)) := ⟨_, rfl⟩
          replace h := h x16 ex16
          refine zx_iinc (v := x16) (lv' := [(3, .int x16), (0, .ref b), (1, .ref (g 0)), (2, .ref (g 223))]) C dL_law_1836 3 rfl (by rw [ex16]; rfl) (by decide) rfl ?_
          refine zx_goto C 18 dL_law_1839 (by decide) ?_
          refine zx_lv (lv' := [(0, .ref b), (1, .ref (g 0)), (2, .ref (g 223)), (3, .int x16)]) [1, 2, 3, 0] rfl ?_
          exact ih x16 σ14 h
        | 1, _, q =>
          replace h := h.2.1 q
          refine zx_tableIn C 247 (1 : Int32) q dL_law_33 (by decide) (by decide) rfl (by decide) ?_
          refine zx_aload_n C dL_law_247 1 rfl ?_
          refine zx_aload_n C dL_law_248 0 rfl ?_
          refine zx_iload_n C dL_law_249 3 rfl ?_
          refine zx_iconst (v := (1 : Int32)) C dL_law_250 (by decide) ?_
          refine zx_iadd C dL_law_251 ?_
          obtain ⟨bd17, h⟩ := h
          refine zx_sld C hX hbl hbA bd17 dL_law_252 ?_
          refine zx_cVi C [.int (xs ((x_3 + (1 : Int32))).toNatClampNeg)] lk_L_18 (c_X9_end l D cy g (xs ((x_3 + (1 : Int32))).toNatClampNeg)  σ h) zs_0 rfl ⟨by decide, by decide⟩ ⟨rfl, rfl⟩ ⟨by decide, by decide⟩ rfl rfl (Nat.le_of_ble_eq_true rfl) dL_law_253 (fun r19 σ18 h => ?_)
          refine zx_pop C dL_law_256 rfl ?_
          refine zx_aload_n C dL_law_257 2 rfl ?_
          refine zx_aload_n C dL_law_258 0 rfl ?_
          refine zx_iload_n C dL_law_259 3 rfl ?_
          refine zx_iconst (v := (1 : Int32)) C dL_law_260 (by decide) ?_
          refine zx_iadd C dL_law_261 ?_
          obtain ⟨bd20, h⟩ := h
          refine zx_sld C hX hbl hbA bd20 dL_law_262 ?_
          refine zx_cVi C [.int (xs ((x_3 + (1 : Int32))).toNatClampNeg)] lk_L_22 (c_X10_end l D cy g (xs ((x_3 + (1 : Int32))).toNatClampNeg)  σ18 h) zs_223 rfl ⟨by decide, by decide⟩ ⟨rfl, rfl⟩ ⟨by decide, by decide⟩ rfl rfl (Nat.le_of_ble_eq_true rfl) dL_law_263 (fun r22 σ21 h => ?_)
          refine zx_pop C dL_law_266 rfl ?_
          refine zx_goto C 1836 dL_law_267 (by decide) ?_
          obtain ⟨x23, ex23⟩ : ∃ y : Int32, y = (x_3 + (6 : Int32)) := ⟨_, rfl⟩
          replace h := h x23 ex23
          refine zx_iinc (v := x23) (lv' := [(3, .int x23), (0, .ref b), (1, .ref (g 0)), (2, .ref (g 223))]) C dL_law_1836 3 rfl (by rw [ex23]; rfl) (by decide) rfl ?_
          refine zx_goto C 18 dL_law_1839 (by decide) ?_
          refine zx_lv (lv' := [(0, .ref b), (1, .ref (g 0)), (2, .ref (g 223)), (3, .int x23)]) [1, 2, 3, 0] rfl ?_
          exact ih x23 σ21 h
        | 2, _, q =>
          replace h := h.2.2.1 q
          refine zx_tableIn C 270 (2 : Int32) q dL_law_33 (by decide) (by decide) rfl (by decide) ?_
          refine zx_aload_n C dL_law_270 1 rfl ?_
          refine zx_aload_n C dL_law_271 0 rfl ?_
          refine zx_iload_n C dL_law_272 3 rfl ?_
          refine zx_iconst (v := (1 : Int32)) C dL_law_273 (by decide) ?_
          refine zx_iadd C dL_law_274 ?_
          obtain ⟨bd24, h⟩ := h
          refine zx_sld C hX hbl hbA bd24 dL_law_275 ?_
          refine zx_aload_n C dL_law_276 0 rfl ?_
          refine zx_iload_n C dL_law_277 3 rfl ?_
          refine zx_iconst (v := (2 : Int32)) C dL_law_278 (by decide) ?_
          refine zx_iadd C dL_law_279 ?_
          obtain ⟨bd25, h⟩ := h
          refine zx_sld C hX hbl hbA bd25 dL_law_280 ?_
          refine zx_cVi C [.int (xs ((x_3 + (1 : Int32))).toNatClampNeg), .int (xs ((x_3 + (2 : Int32))).toNatClampNeg)] lk_L_23 (c_X9_text l D cy g (xs ((x_3 + (1 : Int32))).toNatClampNeg) (xs ((x_3 + (2 : Int32))).toNatClampNeg)  σ h) zs_0 rfl ⟨by decide, by decide⟩ ⟨rfl, rfl⟩ ⟨by decide, by decide⟩ rfl rfl (Nat.le_of_ble_eq_true rfl) dL_law_281 (fun r27 σ26 h => ?_)
          refine zx_pop C dL_law_284 rfl ?_
          refine zx_aload_n C dL_law_285 2 rfl ?_
          refine zx_aload_n C dL_law_286 0 rfl ?_
          refine zx_iload_n C dL_law_287 3 rfl ?_
          refine zx_iconst (v := (1 : Int32)) C dL_law_288 (by decide) ?_
          refine zx_iadd C dL_law_289 ?_
          obtain ⟨bd28, h⟩ := h
          refine zx_sld C hX hbl hbA bd28 dL_law_290 ?_
          refine zx_aload_n C dL_law_291 0 rfl ?_
          refine zx_iload_n C dL_law_292 3 rfl ?_
          refine zx_iconst (v := (2 : Int32)) C dL_law_293 (by decide) ?_
          refine zx_iadd C dL_law_294 ?_
          obtain ⟨bd29, h⟩ := h
          refine zx_sld C hX hbl hbA bd29 dL_law_295 ?_
          refine zx_cVi C [.int (xs ((x_3 + (1 : Int32))).toNatClampNeg), .int (xs ((x_3 + (2 : Int32))).toNatClampNeg)] lk_L_27 (c_X10_text l D cy g (xs ((x_3 + (1 : Int32))).toNatClampNeg) (xs ((x_3 + (2 : Int32))).toNatClampNeg)  σ26 h) zs_223 rfl ⟨by decide, by decide⟩ ⟨rfl, rfl⟩ ⟨by decide, by decide⟩ rfl rfl (Nat.le_of_ble_eq_true rfl) dL_law_296 (fun r31 σ30 h => ?_)
          refine zx_pop C dL_law_299 rfl ?_
          refine zx_goto C 1836 dL_law_300 (by decide) ?_
          obtain ⟨x32, ex32⟩ : ∃ y : Int32, y = (x_3 + (6 : Int32)) := ⟨_, rfl⟩
          replace h := h x32 ex32
          refine zx_iinc (v := x32) (lv' := [(3, .int x32), (0, .ref b), (1, .ref (g 0)), (2, .ref (g 223))]) C dL_law_1836 3 rfl (by rw [ex32]; rfl) (by decide) rfl ?_
          refine zx_goto C 18 dL_law_1839 (by decide) ?_
          refine zx_lv (lv' := [(0, .ref b), (1, .ref (g 0)), (2, .ref (g 223)), (3, .int x32)]) [1, 2, 3, 0] rfl ?_
          exact ih x32 σ30 h
        | 3, _, q =>
          replace h := h.2.2.2.1 q
          refine zx_tableIn C 303 (3 : Int32) q dL_law_33 (by decide) (by decide) rfl (by decide) ?_
          refine zx_aload_n C dL_law_303 1 rfl ?_
          refine zx_aload_n C dL_law_304 0 rfl ?_
          refine zx_iload_n C dL_law_305 3 rfl ?_
          refine zx_iconst (v := (1 : Int32)) C dL_law_306 (by decide) ?_
          refine zx_iadd C dL_law_307 ?_
          obtain ⟨bd33, h⟩ := h
          refine zx_sld C hX hbl hbA bd33 dL_law_308 ?_
          refine zx_cVi C [.int (xs ((x_3 + (1 : Int32))).toNatClampNeg)] lk_L_28 (c_X9_fault l D cy g (xs ((x_3 + (1 : Int32))).toNatClampNeg)  σ h) zs_0 rfl ⟨by decide, by decide⟩ ⟨rfl, rfl⟩ ⟨by decide, by decide⟩ rfl rfl (Nat.le_of_ble_eq_true rfl) dL_law_309 (fun r35 σ34 h => ?_)
          refine zx_pop C dL_law_312 rfl ?_
          refine zx_aload_n C dL_law_313 2 rfl ?_
          refine zx_aload_n C dL_law_314 0 rfl ?_
          refine zx_iload_n C dL_law_315 3 rfl ?_
          refine zx_iconst (v := (1 : Int32)) C dL_law_316 (by decide) ?_
          refine zx_iadd C dL_law_317 ?_
          obtain ⟨bd36, h⟩ := h
          refine zx_sld C hX hbl hbA bd36 dL_law_318 ?_
          refine zx_cVi C [.int (xs ((x_3 + (1 : Int32))).toNatClampNeg)] lk_L_31 (c_X10_fault l D cy g (xs ((x_3 + (1 : Int32))).toNatClampNeg)  σ34 h) zs_223 rfl ⟨by decide, by decide⟩ ⟨rfl, rfl⟩ ⟨by decide, by decide⟩ rfl rfl (Nat.le_of_ble_eq_true rfl) dL_law_319 (fun r38 σ37 h => ?_)
          refine zx_pop C dL_law_322 rfl ?_
          refine zx_goto C 1836 dL_law_323 (by decide) ?_
          obtain ⟨x39, ex39⟩ : ∃ y : Int32, y = (x_3 + (6 : Int32)) := ⟨_, rfl⟩
          replace h := h x39 ex39
          refine zx_iinc (v := x39) (lv' := [(3, .int x39), (0, .ref b), (1, .ref (g 0)), (2, .ref (g 223))]) C dL_law_1836 3 rfl (by rw [ex39]; rfl) (by decide) rfl ?_
          refine zx_goto C 18 dL_law_1839 (by decide) ?_
          refine zx_lv (lv' := [(0, .ref b), (1, .ref (g 0)), (2, .ref (g 223)), (3, .int x39)]) [1, 2, 3, 0] rfl ?_
          exact ih x39 σ37 h
        | 4, _, q =>
          replace h := h.2.2.2.2.1 q
          refine zx_tableIn C 326 (4 : Int32) q dL_law_33 (by decide) (by decide) rfl (by decide) ?_
          refine zx_aload_n C dL_law_326 1 rfl ?_
          refine zx_aload_n C dL_law_327 0 rfl ?_
          refine zx_iload_n C dL_law_328 3 rfl ?_
          refine zx_iconst (v := (1 : Int32)) C dL_law_329 (by decide) ?_
          refine zx_iadd C dL_law_330 ?_
          obtain ⟨bd40, h⟩ := h
          refine zx_sld C hX hbl hbA bd40 dL_law_331 ?_
          refine zx_aload_n C dL_law_332 0 rfl ?_
          refine zx_iload_n C dL_law_333 3 rfl ?_
          refine zx_iconst (v := (2 : Int32)) C dL_law_334 (by decide) ?_
          refine zx_iadd C dL_law_335 ?_
          obtain ⟨bd41, h⟩ := h
          refine zx_sld C hX hbl hbA bd41 dL_law_336 ?_
          refine zx_cVi C [.int (xs ((x_3 + (1 : Int32))).toNatClampNeg), .int (xs ((x_3 + (2 : Int32))).toNatClampNeg)] lk_L_32 (c_X9_line l D cy g (xs ((x_3 + (1 : Int32))).toNatClampNeg) (xs ((x_3 + (2 : Int32))).toNatClampNeg)  σ h) zs_0 rfl ⟨by decide, by decide⟩ ⟨rfl, rfl⟩ ⟨by decide, by decide⟩ rfl rfl (Nat.le_of_ble_eq_true rfl) dL_law_337 (fun r43 σ42 h => ?_)
          refine zx_pop C dL_law_340 rfl ?_
          refine zx_aload_n C dL_law_341 2 rfl ?_
          refine zx_aload_n C dL_law_342 0 rfl ?_
          refine zx_iload_n C dL_law_343 3 rfl ?_
          refine zx_iconst (v := (1 : Int32)) C dL_law_344 (by decide) ?_
          refine zx_iadd C dL_law_345 ?_
          obtain ⟨bd44, h⟩ := h
          refine zx_sld C hX hbl hbA bd44 dL_law_346 ?_
          refine zx_aload_n C dL_law_347 0 rfl ?_
          refine zx_iload_n C dL_law_348 3 rfl ?_
          refine zx_iconst (v := (2 : Int32)) C dL_law_349 (by decide) ?_
          refine zx_iadd C dL_law_350 ?_
          obtain ⟨bd45, h⟩ := h
          refine zx_sld C hX hbl hbA bd45 dL_law_351 ?_
          refine zx_cVi C [.int (xs ((x_3 + (1 : Int32))).toNatClampNeg), .int (xs ((x_3 + (2 : Int32))).toNatClampNeg)] lk_L_35 (c_X10_line l D cy g (xs ((x_3 + (1 : Int32))).toNatClampNeg) (xs ((x_3 + (2 : Int32))).toNatClampNeg)  σ42 h) zs_223 rfl ⟨by decide, by decide⟩ ⟨rfl, rfl⟩ ⟨by decide, by decide⟩ rfl rfl (Nat.le_of_ble_eq_true rfl) dL_law_352 (fun r47 σ46 h => ?_)
          refine zx_pop C dL_law_355 rfl ?_
          refine zx_goto C 1836 dL_law_356 (by decide) ?_
          obtain ⟨x48, ex48⟩ : ∃ y : Int32, y = (x_3 + (6 : Int32)) := ⟨_, rfl⟩
          replace h := h x48 ex48
          refine zx_iinc (v := x48) (lv' := [(3, .int x48), (0, .ref b), (1, .ref (g 0)), (2, .ref (g 223))]) C dL_law_1836 3 rfl (by rw [ex48]; rfl) (by decide) rfl ?_
          refine zx_goto C 18 dL_law_1839 (by decide) ?_
          refine zx_lv (lv' := [(0, .ref b), (1, .ref (g 0)), (2, .ref (g 223)), (3, .int x48)]) [1, 2, 3, 0] rfl ?_
          exact ih x48 σ46 h
        | 5, _, q =>
          replace h := h.2.2.2.2.2.1 q
          refine zx_tableIn C 359 (5 : Int32) q dL_law_33 (by decide) (by decide) rfl (by decide) ?_
          refine zx_aload_n C dL_law_359 1 rfl ?_
          refine zx_aload_n C dL_law_360 0 rfl ?_
          refine zx_iload_n C dL_law_361 3 rfl ?_
          refine zx_iconst (v := (1 : Int32)) C dL_law_362 (by decide) ?_
          refine zx_iadd C dL_law_363 ?_
          obtain ⟨bd49, h⟩ := h
          refine zx_sld C hX hbl hbA bd49 dL_law_364 ?_
          refine zx_aload_n C dL_law_365 0 rfl ?_
          refine zx_iload_n C dL_law_366 3 rfl ?_
          refine zx_iconst (v := (2 : Int32)) C dL_law_367 (by decide) ?_
          refine zx_iadd C dL_law_368 ?_
          obtain ⟨bd50, h⟩ := h
          refine zx_sld C hX hbl hbA bd50 dL_law_369 ?_
          refine zx_aload_n C dL_law_370 0 rfl ?_
          refine zx_iload_n C dL_law_371 3 rfl ?_
          refine zx_iconst (v := (3 : Int32)) C dL_law_372 (by decide) ?_
          refine zx_iadd C dL_law_373 ?_
          obtain ⟨bd51, h⟩ := h
          refine zx_sld C hX hbl hbA bd51 dL_law_374 ?_
          refine zx_cVi C [.int (xs ((x_3 + (1 : Int32))).toNatClampNeg), .int (xs ((x_3 + (2 : Int32))).toNatClampNeg), .int (xs ((x_3 + (3 : Int32))).toNatClampNeg)] lk_L_36 (c_X9_post l D cy g (xs ((x_3 + (1 : Int32))).toNatClampNeg) (xs ((x_3 + (2 : Int32))).toNatClampNeg) (xs ((x_3 + (3 : Int32))).toNatClampNeg)  σ h) zs_0 rfl ⟨by decide, by decide⟩ ⟨rfl, rfl⟩ ⟨by decide, by decide⟩ rfl rfl (Nat.le_of_ble_eq_true rfl) dL_law_375 (fun r53 σ52 h => ?_)
          refine zx_pop C dL_law_378 rfl ?_
          refine zx_aload_n C dL_law_379 2 rfl ?_
          refine zx_aload_n C dL_law_380 0 rfl ?_
          refine zx_iload_n C dL_law_381 3 rfl ?_
          refine zx_iconst (v := (1 : Int32)) C dL_law_382 (by decide) ?_
          refine zx_iadd C dL_law_383 ?_
          obtain ⟨bd54, h⟩ := h
          refine zx_sld C hX hbl hbA bd54 dL_law_384 ?_
          refine zx_aload_n C dL_law_385 0 rfl ?_
          refine zx_iload_n C dL_law_386 3 rfl ?_
          refine zx_iconst (v := (2 : Int32)) C dL_law_387 (by decide) ?_
          refine zx_iadd C dL_law_388 ?_
          obtain ⟨bd55, h⟩ := h
          refine zx_sld C hX hbl hbA bd55 dL_law_389 ?_
          refine zx_aload_n C dL_law_390 0 rfl ?_
          refine zx_iload_n C dL_law_391 3 rfl ?_
          refine zx_iconst (v := (3 : Int32)) C dL_law_392 (by decide) ?_
          refine zx_iadd C dL_law_393 ?_
          obtain ⟨bd56, h⟩ := h
          refine zx_sld C hX hbl hbA bd56 dL_law_394 ?_
          refine zx_cVi C [.int (xs ((x_3 + (1 : Int32))).toNatClampNeg), .int (xs ((x_3 + (2 : Int32))).toNatClampNeg), .int (xs ((x_3 + (3 : Int32))).toNatClampNeg)] lk_L_40 (c_X10_post l D cy g (xs ((x_3 + (1 : Int32))).toNatClampNeg) (xs ((x_3 + (2 : Int32))).toNatClampNeg) (xs ((x_3 + (3 : Int32))).toNatClampNeg)  σ52 h) zs_223 rfl ⟨by decide, by decide⟩ ⟨rfl, rfl⟩ ⟨by decide, by decide⟩ rfl rfl (Nat.le_of_ble_eq_true rfl) dL_law_395 (fun r58 σ57 h => ?_)
          refine zx_pop C dL_law_398 rfl ?_
          refine zx_goto C 1836 dL_law_399 (by decide) ?_
          obtain ⟨x59, ex59⟩ : ∃ y : Int32, y = (x_3 + (6 : Int32)) := ⟨_, rfl⟩
          replace h := h x59 ex59
          refine zx_iinc (v := x59) (lv' := [(3, .int x59), (0, .ref b), (1, .ref (g 0)), (2, .ref (g 223))]) C dL_law_1836 3 rfl (by rw [ex59]; rfl) (by decide) rfl ?_
          refine zx_goto C 18 dL_law_1839 (by decide) ?_
          refine zx_lv (lv' := [(0, .ref b), (1, .ref (g 0)), (2, .ref (g 223)), (3, .int x59)]) [1, 2, 3, 0] rfl ?_
          exact ih x59 σ57 h
        | 6, _, q =>
          replace h := h.2.2.2.2.2.2.1 q
          refine zx_tableIn C 402 (6 : Int32) q dL_law_33 (by decide) (by decide) rfl (by decide) ?_
          refine zx_aload_n C dL_law_402 1 rfl ?_
          refine zx_aload_n C dL_law_403 0 rfl ?_
          refine zx_iload_n C dL_law_404 3 rfl ?_
          refine zx_iconst (v := (1 : Int32)) C dL_law_405 (by decide) ?_
          refine zx_iadd C dL_law_406 ?_
          obtain ⟨bd60, h⟩ := h
          refine zx_sld C hX hbl hbA bd60 dL_law_407 ?_
          refine zx_aload_n C dL_law_408 0 rfl ?_
          refine zx_iload_n C dL_law_409 3 rfl ?_
          refine zx_iconst (v := (2 : Int32)) C dL_law_410 (by decide) ?_
          refine zx_iadd C dL_law_411 ?_
          obtain ⟨bd61, h⟩ := h
          refine zx_sld C hX hbl hbA bd61 dL_law_412 ?_
          refine zx_aload_n C dL_law_413 0 rfl ?_
          refine zx_iload_n C dL_law_414 3 rfl ?_
          refine zx_iconst (v := (3 : Int32)) C dL_law_415 (by decide) ?_
          refine zx_iadd C dL_law_416 ?_
          obtain ⟨bd62, h⟩ := h
          refine zx_sld C hX hbl hbA bd62 dL_law_417 ?_
          refine zx_cVi C [.int (xs ((x_3 + (1 : Int32))).toNatClampNeg), .int (xs ((x_3 + (2 : Int32))).toNatClampNeg), .int (xs ((x_3 + (3 : Int32))).toNatClampNeg)] lk_L_41 (c_X9_rider l D cy g (xs ((x_3 + (1 : Int32))).toNatClampNeg) (xs ((x_3 + (2 : Int32))).toNatClampNeg) (xs ((x_3 + (3 : Int32))).toNatClampNeg)  σ h) zs_0 rfl ⟨by decide, by decide⟩ ⟨rfl, rfl⟩ ⟨by decide, by decide⟩ rfl rfl (Nat.le_of_ble_eq_true rfl) dL_law_418 (fun r64 σ63 h => ?_)
          refine zx_pop C dL_law_421 rfl ?_
          refine zx_aload_n C dL_law_422 2 rfl ?_
          refine zx_aload_n C dL_law_423 0 rfl ?_
          refine zx_iload_n C dL_law_424 3 rfl ?_
          refine zx_iconst (v := (1 : Int32)) C dL_law_425 (by decide) ?_
          refine zx_iadd C dL_law_426 ?_
          obtain ⟨bd65, h⟩ := h
          refine zx_sld C hX hbl hbA bd65 dL_law_427 ?_
          refine zx_aload_n C dL_law_428 0 rfl ?_
          refine zx_iload_n C dL_law_429 3 rfl ?_
          refine zx_iconst (v := (2 : Int32)) C dL_law_430 (by decide) ?_
          refine zx_iadd C dL_law_431 ?_
          obtain ⟨bd66, h⟩ := h
          refine zx_sld C hX hbl hbA bd66 dL_law_432 ?_
          refine zx_aload_n C dL_law_433 0 rfl ?_
          refine zx_iload_n C dL_law_434 3 rfl ?_
          refine zx_iconst (v := (3 : Int32)) C dL_law_435 (by decide) ?_
          refine zx_iadd C dL_law_436 ?_
          obtain ⟨bd67, h⟩ := h
          refine zx_sld C hX hbl hbA bd67 dL_law_437 ?_
          refine zx_cVi C [.int (xs ((x_3 + (1 : Int32))).toNatClampNeg), .int (xs ((x_3 + (2 : Int32))).toNatClampNeg), .int (xs ((x_3 + (3 : Int32))).toNatClampNeg)] lk_L_44 (c_X10_rider l D cy g (xs ((x_3 + (1 : Int32))).toNatClampNeg) (xs ((x_3 + (2 : Int32))).toNatClampNeg) (xs ((x_3 + (3 : Int32))).toNatClampNeg)  σ63 h) zs_223 rfl ⟨by decide, by decide⟩ ⟨rfl, rfl⟩ ⟨by decide, by decide⟩ rfl rfl (Nat.le_of_ble_eq_true rfl) dL_law_438 (fun r69 σ68 h => ?_)
          refine zx_pop C dL_law_441 rfl ?_
          refine zx_goto C 1836 dL_law_442 (by decide) ?_
          obtain ⟨x70, ex70⟩ : ∃ y : Int32, y = (x_3 + (6 : Int32)) := ⟨_, rfl⟩
          replace h := h x70 ex70
          refine zx_iinc (v := x70) (lv' := [(3, .int x70), (0, .ref b), (1, .ref (g 0)), (2, .ref (g 223))]) C dL_law_1836 3 rfl (by rw [ex70]; rfl) (by decide) rfl ?_
          refine zx_goto C 18 dL_law_1839 (by decide) ?_
          refine zx_lv (lv' := [(0, .ref b), (1, .ref (g 0)), (2, .ref (g 223)), (3, .int x70)]) [1, 2, 3, 0] rfl ?_
          exact ih x70 σ68 h
        | 7, _, q =>
          replace h := h.2.2.2.2.2.2.2.1 q
          refine zx_tableIn C 445 (7 : Int32) q dL_law_33 (by decide) (by decide) rfl (by decide) ?_
          refine zx_aload_n C dL_law_445 1 rfl ?_
          refine zx_aload_n C dL_law_446 0 rfl ?_
          refine zx_iload_n C dL_law_447 3 rfl ?_
          refine zx_iconst (v := (1 : Int32)) C dL_law_448 (by decide) ?_
          refine zx_iadd C dL_law_449 ?_
          obtain ⟨bd71, h⟩ := h
          refine zx_sld C hX hbl hbA bd71 dL_law_450 ?_
          refine zx_aload_n C dL_law_451 0 rfl ?_
          refine zx_iload_n C dL_law_452 3 rfl ?_
          refine zx_iconst (v := (2 : Int32)) C dL_law_453 (by decide) ?_
          refine zx_iadd C dL_law_454 ?_
          obtain ⟨bd72, h⟩ := h
          refine zx_sld C hX hbl hbA bd72 dL_law_455 ?_
          refine zx_aload_n C dL_law_456 0 rfl ?_
          refine zx_iload_n C dL_law_457 3 rfl ?_
          refine zx_iconst (v := (3 : Int32)) C dL_law_458 (by decide) ?_
          refine zx_iadd C dL_law_459 ?_
          obtain ⟨bd73, h⟩ := h
          refine zx_sld C hX hbl hbA bd73 dL_law_460 ?_
          refine zx_aload_n C dL_law_461 0 rfl ?_
          refine zx_iload_n C dL_law_462 3 rfl ?_
          refine zx_iconst (v := (4 : Int32)) C dL_law_463 (by decide) ?_
          refine zx_iadd C dL_law_464 ?_
          obtain ⟨bd74, h⟩ := h
          refine zx_sld C hX hbl hbA bd74 dL_law_465 ?_
          refine zx_aload_n C dL_law_466 0 rfl ?_
          refine zx_iload_n C dL_law_467 3 rfl ?_
          refine zx_iconst (v := (5 : Int32)) C dL_law_468 (by decide) ?_
          refine zx_iadd C dL_law_469 ?_
          obtain ⟨bd75, h⟩ := h
          refine zx_sld C hX hbl hbA bd75 dL_law_470 ?_
          refine zx_cVi C [.int (xs ((x_3 + (1 : Int32))).toNatClampNeg), .int (xs ((x_3 + (2 : Int32))).toNatClampNeg), .int (xs ((x_3 + (3 : Int32))).toNatClampNeg), .int (xs ((x_3 + (4 : Int32))).toNatClampNeg), .int (xs ((x_3 + (5 : Int32))).toNatClampNeg)] lk_L_45 (c_X9_run l D cy g (xs ((x_3 + (1 : Int32))).toNatClampNeg) (xs ((x_3 + (2 : Int32))).toNatClampNeg) (xs ((x_3 + (3 : Int32))).toNatClampNeg) (xs ((x_3 + (4 : Int32))).toNatClampNeg) (xs ((x_3 + (5 : Int32))).toNatClampNeg)  σ h) zs_0 rfl ⟨by decide, by decide⟩ ⟨rfl, rfl⟩ ⟨by decide, by decide⟩ rfl rfl (Nat.le_of_ble_eq_true rfl) dL_law_471 (fun r77 σ76 h => ?_)
          refine zx_pop C dL_law_474 rfl ?_
          refine zx_aload_n C dL_law_475 2 rfl ?_
          refine zx_aload_n C dL_law_476 0 rfl ?_
          refine zx_iload_n C dL_law_477 3 rfl ?_
          refine zx_iconst (v := (1 : Int32)) C dL_law_478 (by decide) ?_
          refine zx_iadd C dL_law_479 ?_
          obtain ⟨bd78, h⟩ := h
          refine zx_sld C hX hbl hbA bd78 dL_law_480 ?_
          refine zx_aload_n C dL_law_481 0 rfl ?_
          refine zx_iload_n C dL_law_482 3 rfl ?_
          refine zx_iconst (v := (2 : Int32)) C dL_law_483 (by decide) ?_
          refine zx_iadd C dL_law_484 ?_
          obtain ⟨bd79, h⟩ := h
          refine zx_sld C hX hbl hbA bd79 dL_law_485 ?_
          refine zx_aload_n C dL_law_486 0 rfl ?_
          refine zx_iload_n C dL_law_487 3 rfl ?_
          refine zx_iconst (v := (3 : Int32)) C dL_law_488 (by decide) ?_
          refine zx_iadd C dL_law_489 ?_
          obtain ⟨bd80, h⟩ := h
          refine zx_sld C hX hbl hbA bd80 dL_law_490 ?_
          refine zx_aload_n C dL_law_491 0 rfl ?_
          refine zx_iload_n C dL_law_492 3 rfl ?_
          refine zx_iconst (v := (4 : Int32)) C dL_law_493 (by decide) ?_
          refine zx_iadd C dL_law_494 ?_
          obtain ⟨bd81, h⟩ := h
          refine zx_sld C hX hbl hbA bd81 dL_law_495 ?_
          refine zx_aload_n C dL_law_496 0 rfl ?_
          refine zx_iload_n C dL_law_497 3 rfl ?_
          refine zx_iconst (v := (5 : Int32)) C dL_law_498 (by decide) ?_
          refine zx_iadd C dL_law_499 ?_
          obtain ⟨bd82, h⟩ := h
          refine zx_sld C hX hbl hbA bd82 dL_law_500 ?_
          refine zx_cVi C [.int (xs ((x_3 + (1 : Int32))).toNatClampNeg), .int (xs ((x_3 + (2 : Int32))).toNatClampNeg), .int (xs ((x_3 + (3 : Int32))).toNatClampNeg), .int (xs ((x_3 + (4 : Int32))).toNatClampNeg), .int (xs ((x_3 + (5 : Int32))).toNatClampNeg)] lk_L_48 (c_X10_run l D cy g (xs ((x_3 + (1 : Int32))).toNatClampNeg) (xs ((x_3 + (2 : Int32))).toNatClampNeg) (xs ((x_3 + (3 : Int32))).toNatClampNeg) (xs ((x_3 + (4 : Int32))).toNatClampNeg) (xs ((x_3 + (5 : Int32))).toNatClampNeg)  σ76 h) zs_223 rfl ⟨by decide, by decide⟩ ⟨rfl, rfl⟩ ⟨by decide, by decide⟩ rfl rfl (Nat.le_of_ble_eq_true rfl) dL_law_501 (fun r84 σ83 h => ?_)
          refine zx_pop C dL_law_504 rfl ?_
          refine zx_goto C 1836 dL_law_505 (by decide) ?_
          obtain ⟨x85, ex85⟩ : ∃ y : Int32, y = (x_3 + (6 : Int32)) := ⟨_, rfl⟩
          replace h := h x85 ex85
          refine zx_iinc (v := x85) (lv' := [(3, .int x85), (0, .ref b), (1, .ref (g 0)), (2, .ref (g 223))]) C dL_law_1836 3 rfl (by rw [ex85]; rfl) (by decide) rfl ?_
          refine zx_goto C 18 dL_law_1839 (by decide) ?_
          refine zx_lv (lv' := [(0, .ref b), (1, .ref (g 0)), (2, .ref (g 223)), (3, .int x85)]) [1, 2, 3, 0] rfl ?_
          exact ih x85 σ83 h
        | 8, _, q =>
          replace h := h.2.2.2.2.2.2.2.2.1 q
          refine zx_tableIn C 508 (8 : Int32) q dL_law_33 (by decide) (by decide) rfl (by decide) ?_
          refine zx_aload_n C dL_law_508 1 rfl ?_
          refine zx_aload_n C dL_law_509 0 rfl ?_
          refine zx_iload_n C dL_law_510 3 rfl ?_
          refine zx_iconst (v := (1 : Int32)) C dL_law_511 (by decide) ?_
          refine zx_iadd C dL_law_512 ?_
          obtain ⟨bd86, h⟩ := h
          refine zx_sld C hX hbl hbA bd86 dL_law_513 ?_
          refine zx_aload_n C dL_law_514 0 rfl ?_
          refine zx_iload_n C dL_law_515 3 rfl ?_
          refine zx_iconst (v := (2 : Int32)) C dL_law_516 (by decide) ?_
          refine zx_iadd C dL_law_517 ?_
          obtain ⟨bd87, h⟩ := h
          refine zx_sld C hX hbl hbA bd87 dL_law_518 ?_
          refine zx_aload_n C dL_law_519 0 rfl ?_
          refine zx_iload_n C dL_law_520 3 rfl ?_
          refine zx_iconst (v := (3 : Int32)) C dL_law_521 (by decide) ?_
          refine zx_iadd C dL_law_522 ?_
          obtain ⟨bd88, h⟩ := h
          refine zx_sld C hX hbl hbA bd88 dL_law_523 ?_
          refine zx_aload_n C dL_law_524 0 rfl ?_
          refine zx_iload_n C dL_law_525 3 rfl ?_
          refine zx_iconst (v := (4 : Int32)) C dL_law_526 (by decide) ?_
          refine zx_iadd C dL_law_527 ?_
          obtain ⟨bd89, h⟩ := h
          refine zx_sld C hX hbl hbA bd89 dL_law_528 ?_
          refine zx_aload_n C dL_law_529 0 rfl ?_
          refine zx_iload_n C dL_law_530 3 rfl ?_
          refine zx_iconst (v := (5 : Int32)) C dL_law_531 (by decide) ?_
          refine zx_iadd C dL_law_532 ?_
          obtain ⟨bd90, h⟩ := h
          refine zx_sld C hX hbl hbA bd90 dL_law_533 ?_
          refine zx_cVi C [.int (xs ((x_3 + (1 : Int32))).toNatClampNeg), .int (xs ((x_3 + (2 : Int32))).toNatClampNeg), .int (xs ((x_3 + (3 : Int32))).toNatClampNeg), .int (xs ((x_3 + (4 : Int32))).toNatClampNeg), .int (xs ((x_3 + (5 : Int32))).toNatClampNeg)] lk_L_49 (c_X9_who l D cy g (xs ((x_3 + (1 : Int32))).toNatClampNeg) (xs ((x_3 + (2 : Int32))).toNatClampNeg) (xs ((x_3 + (3 : Int32))).toNatClampNeg) (xs ((x_3 + (4 : Int32))).toNatClampNeg) (xs ((x_3 + (5 : Int32))).toNatClampNeg)  σ h) zs_0 rfl ⟨by decide, by decide⟩ ⟨rfl, rfl⟩ ⟨by decide, by decide⟩ rfl rfl (Nat.le_of_ble_eq_true rfl) dL_law_534 (fun r92 σ91 h => ?_)
          refine zx_pop C dL_law_537 rfl ?_
          refine zx_aload_n C dL_law_538 2 rfl ?_
          refine zx_aload_n C dL_law_539 0 rfl ?_
          refine zx_iload_n C dL_law_540 3 rfl ?_
          refine zx_iconst (v := (1 : Int32)) C dL_law_541 (by decide) ?_
          refine zx_iadd C dL_law_542 ?_
          obtain ⟨bd93, h⟩ := h
          refine zx_sld C hX hbl hbA bd93 dL_law_543 ?_
          refine zx_aload_n C dL_law_544 0 rfl ?_
          refine zx_iload_n C dL_law_545 3 rfl ?_
          refine zx_iconst (v := (2 : Int32)) C dL_law_546 (by decide) ?_
          refine zx_iadd C dL_law_547 ?_
          obtain ⟨bd94, h⟩ := h
          refine zx_sld C hX hbl hbA bd94 dL_law_548 ?_
          refine zx_aload_n C dL_law_549 0 rfl ?_
          refine zx_iload_n C dL_law_550 3 rfl ?_
          refine zx_iconst (v := (3 : Int32)) C dL_law_551 (by decide) ?_
          refine zx_iadd C dL_law_552 ?_
          obtain ⟨bd95, h⟩ := h
          refine zx_sld C hX hbl hbA bd95 dL_law_553 ?_
          refine zx_aload_n C dL_law_554 0 rfl ?_
          refine zx_iload_n C dL_law_555 3 rfl ?_
          refine zx_iconst (v := (4 : Int32)) C dL_law_556 (by decide) ?_
          refine zx_iadd C dL_law_557 ?_
          obtain ⟨bd96, h⟩ := h
          refine zx_sld C hX hbl hbA bd96 dL_law_558 ?_
          refine zx_aload_n C dL_law_559 0 rfl ?_
          refine zx_iload_n C dL_law_560 3 rfl ?_
          refine zx_iconst (v := (5 : Int32)) C dL_law_561 (by decide) ?_
          refine zx_iadd C dL_law_562 ?_
          obtain ⟨bd97, h⟩ := h
          refine zx_sld C hX hbl hbA bd97 dL_law_563 ?_
          refine zx_cVi C [.int (xs ((x_3 + (1 : Int32))).toNatClampNeg), .int (xs ((x_3 + (2 : Int32))).toNatClampNeg), .int (xs ((x_3 + (3 : Int32))).toNatClampNeg), .int (xs ((x_3 + (4 : Int32))).toNatClampNeg), .int (xs ((x_3 + (5 : Int32))).toNatClampNeg)] lk_L_52 (c_X10_who l D cy g (xs ((x_3 + (1 : Int32))).toNatClampNeg) (xs ((x_3 + (2 : Int32))).toNatClampNeg) (xs ((x_3 + (3 : Int32))).toNatClampNeg) (xs ((x_3 + (4 : Int32))).toNatClampNeg) (xs ((x_3 + (5 : Int32))).toNatClampNeg)  σ91 h) zs_223 rfl ⟨by decide, by decide⟩ ⟨rfl, rfl⟩ ⟨by decide, by decide⟩ rfl rfl (Nat.le_of_ble_eq_true rfl) dL_law_564 (fun r99 σ98 h => ?_)
          refine zx_pop C dL_law_567 rfl ?_
          refine zx_goto C 1836 dL_law_568 (by decide) ?_
          obtain ⟨x100, ex100⟩ : ∃ y : Int32, y = (x_3 + (6 : Int32)) := ⟨_, rfl⟩
          replace h := h x100 ex100
          refine zx_iinc (v := x100) (lv' := [(3, .int x100), (0, .ref b), (1, .ref (g 0)), (2, .ref (g 223))]) C dL_law_1836 3 rfl (by rw [ex100]; rfl) (by decide) rfl ?_
          refine zx_goto C 18 dL_law_1839 (by decide) ?_
          refine zx_lv (lv' := [(0, .ref b), (1, .ref (g 0)), (2, .ref (g 223)), (3, .int x100)]) [1, 2, 3, 0] rfl ?_
          exact ih x100 σ98 h
        | 9, _, q =>
          replace h := h.2.2.2.2.2.2.2.2.2.1 q
          refine zx_tableIn C 571 (9 : Int32) q dL_law_33 (by decide) (by decide) rfl (by decide) ?_
          refine zx_aload_n C dL_law_571 1 rfl ?_
          refine zx_aload_n C dL_law_572 0 rfl ?_
          refine zx_iload_n C dL_law_573 3 rfl ?_
          refine zx_iconst (v := (1 : Int32)) C dL_law_574 (by decide) ?_
          refine zx_iadd C dL_law_575 ?_
          obtain ⟨bd101, h⟩ := h
          refine zx_sld C hX hbl hbA bd101 dL_law_576 ?_
          refine zx_aload_n C dL_law_577 0 rfl ?_
          refine zx_iload_n C dL_law_578 3 rfl ?_
          refine zx_iconst (v := (2 : Int32)) C dL_law_579 (by decide) ?_
          refine zx_iadd C dL_law_580 ?_
          obtain ⟨bd102, h⟩ := h
          refine zx_sld C hX hbl hbA bd102 dL_law_581 ?_
          refine zx_aload_n C dL_law_582 0 rfl ?_
          refine zx_iload_n C dL_law_583 3 rfl ?_
          refine zx_iconst (v := (3 : Int32)) C dL_law_584 (by decide) ?_
          refine zx_iadd C dL_law_585 ?_
          obtain ⟨bd103, h⟩ := h
          refine zx_sld C hX hbl hbA bd103 dL_law_586 ?_
          refine zx_aload_n C dL_law_587 0 rfl ?_
          refine zx_iload_n C dL_law_588 3 rfl ?_
          refine zx_iconst (v := (4 : Int32)) C dL_law_589 (by decide) ?_
          refine zx_iadd C dL_law_590 ?_
          obtain ⟨bd104, h⟩ := h
          refine zx_sld C hX hbl hbA bd104 dL_law_591 ?_
          refine zx_aload_n C dL_law_592 0 rfl ?_
          refine zx_iload_n C dL_law_593 3 rfl ?_
          refine zx_iconst (v := (5 : Int32)) C dL_law_594 (by decide) ?_
          refine zx_iadd C dL_law_595 ?_
          obtain ⟨bd105, h⟩ := h
          refine zx_sld C hX hbl hbA bd105 dL_law_596 ?_
          refine zx_cVi C [.int (xs ((x_3 + (1 : Int32))).toNatClampNeg), .int (xs ((x_3 + (2 : Int32))).toNatClampNeg), .int (xs ((x_3 + (3 : Int32))).toNatClampNeg), .int (xs ((x_3 + (4 : Int32))).toNatClampNeg), .int (xs ((x_3 + (5 : Int32))).toNatClampNeg)] lk_L_53 (c_X9_late l D cy g (xs ((x_3 + (1 : Int32))).toNatClampNeg) (xs ((x_3 + (2 : Int32))).toNatClampNeg) (xs ((x_3 + (3 : Int32))).toNatClampNeg) (xs ((x_3 + (4 : Int32))).toNatClampNeg) (xs ((x_3 + (5 : Int32))).toNatClampNeg)  σ h) zs_0 rfl ⟨by decide, by decide⟩ ⟨rfl, rfl⟩ ⟨by decide, by decide⟩ rfl rfl (Nat.le_of_ble_eq_true rfl) dL_law_597 (fun r107 σ106 h => ?_)
          refine zx_pop C dL_law_600 rfl ?_
          refine zx_aload_n C dL_law_601 2 rfl ?_
          refine zx_aload_n C dL_law_602 0 rfl ?_
          refine zx_iload_n C dL_law_603 3 rfl ?_
          refine zx_iconst (v := (1 : Int32)) C dL_law_604 (by decide) ?_
          refine zx_iadd C dL_law_605 ?_
          obtain ⟨bd108, h⟩ := h
          refine zx_sld C hX hbl hbA bd108 dL_law_606 ?_
          refine zx_aload_n C dL_law_607 0 rfl ?_
          refine zx_iload_n C dL_law_608 3 rfl ?_
          refine zx_iconst (v := (2 : Int32)) C dL_law_609 (by decide) ?_
          refine zx_iadd C dL_law_610 ?_
          obtain ⟨bd109, h⟩ := h
          refine zx_sld C hX hbl hbA bd109 dL_law_611 ?_
          refine zx_aload_n C dL_law_612 0 rfl ?_
          refine zx_iload_n C dL_law_613 3 rfl ?_
          refine zx_iconst (v := (3 : Int32)) C dL_law_614 (by decide) ?_
          refine zx_iadd C dL_law_615 ?_
          obtain ⟨bd110, h⟩ := h
          refine zx_sld C hX hbl hbA bd110 dL_law_616 ?_
          refine zx_aload_n C dL_law_617 0 rfl ?_
          refine zx_iload_n C dL_law_618 3 rfl ?_
          refine zx_iconst (v := (4 : Int32)) C dL_law_619 (by decide) ?_
          refine zx_iadd C dL_law_620 ?_
          obtain ⟨bd111, h⟩ := h
          refine zx_sld C hX hbl hbA bd111 dL_law_621 ?_
          refine zx_aload_n C dL_law_622 0 rfl ?_
          refine zx_iload_n C dL_law_623 3 rfl ?_
          refine zx_iconst (v := (5 : Int32)) C dL_law_624 (by decide) ?_
          refine zx_iadd C dL_law_625 ?_
          obtain ⟨bd112, h⟩ := h
          refine zx_sld C hX hbl hbA bd112 dL_law_626 ?_
          refine zx_cVi C [.int (xs ((x_3 + (1 : Int32))).toNatClampNeg), .int (xs ((x_3 + (2 : Int32))).toNatClampNeg), .int (xs ((x_3 + (3 : Int32))).toNatClampNeg), .int (xs ((x_3 + (4 : Int32))).toNatClampNeg), .int (xs ((x_3 + (5 : Int32))).toNatClampNeg)] lk_L_56 (c_X10_late l D cy g (xs ((x_3 + (1 : Int32))).toNatClampNeg) (xs ((x_3 + (2 : Int32))).toNatClampNeg) (xs ((x_3 + (3 : Int32))).toNatClampNeg) (xs ((x_3 + (4 : Int32))).toNatClampNeg) (xs ((x_3 + (5 : Int32))).toNatClampNeg)  σ106 h) zs_223 rfl ⟨by decide, by decide⟩ ⟨rfl, rfl⟩ ⟨by decide, by decide⟩ rfl rfl (Nat.le_of_ble_eq_true rfl) dL_law_627 (fun r114 σ113 h => ?_)
          refine zx_pop C dL_law_630 rfl ?_
          refine zx_goto C 1836 dL_law_631 (by decide) ?_
          obtain ⟨x115, ex115⟩ : ∃ y : Int32, y = (x_3 + (6 : Int32)) := ⟨_, rfl⟩
          replace h := h x115 ex115
          refine zx_iinc (v := x115) (lv' := [(3, .int x115), (0, .ref b), (1, .ref (g 0)), (2, .ref (g 223))]) C dL_law_1836 3 rfl (by rw [ex115]; rfl) (by decide) rfl ?_
          refine zx_goto C 18 dL_law_1839 (by decide) ?_
          refine zx_lv (lv' := [(0, .ref b), (1, .ref (g 0)), (2, .ref (g 223)), (3, .int x115)]) [1, 2, 3, 0] rfl ?_
          exact ih x115 σ113 h
        | 10, _, q =>
          replace h := h.2.2.2.2.2.2.2.2.2.2.1 q
          refine zx_tableIn C 634 (10 : Int32) q dL_law_33 (by decide) (by decide) rfl (by decide) ?_
          refine zx_aload_n C dL_law_634 1 rfl ?_
          refine zx_aload_n C dL_law_635 0 rfl ?_
          refine zx_iload_n C dL_law_636 3 rfl ?_
          refine zx_iconst (v := (1 : Int32)) C dL_law_637 (by decide) ?_
          refine zx_iadd C dL_law_638 ?_
          obtain ⟨bd116, h⟩ := h
          refine zx_sld C hX hbl hbA bd116 dL_law_639 ?_
          refine zx_aload_n C dL_law_640 0 rfl ?_
          refine zx_iload_n C dL_law_641 3 rfl ?_
          refine zx_iconst (v := (2 : Int32)) C dL_law_642 (by decide) ?_
          refine zx_iadd C dL_law_643 ?_
          obtain ⟨bd117, h⟩ := h
          refine zx_sld C hX hbl hbA bd117 dL_law_644 ?_
          refine zx_aload_n C dL_law_645 0 rfl ?_
          refine zx_iload_n C dL_law_646 3 rfl ?_
          refine zx_iconst (v := (3 : Int32)) C dL_law_647 (by decide) ?_
          refine zx_iadd C dL_law_648 ?_
          obtain ⟨bd118, h⟩ := h
          refine zx_sld C hX hbl hbA bd118 dL_law_649 ?_
          refine zx_aload_n C dL_law_650 0 rfl ?_
          refine zx_iload_n C dL_law_651 3 rfl ?_
          refine zx_iconst (v := (4 : Int32)) C dL_law_652 (by decide) ?_
          refine zx_iadd C dL_law_653 ?_
          obtain ⟨bd119, h⟩ := h
          refine zx_sld C hX hbl hbA bd119 dL_law_654 ?_
          refine zx_cVi C [.int (xs ((x_3 + (1 : Int32))).toNatClampNeg), .int (xs ((x_3 + (2 : Int32))).toNatClampNeg), .int (xs ((x_3 + (3 : Int32))).toNatClampNeg), .int (xs ((x_3 + (4 : Int32))).toNatClampNeg)] lk_L_57 (c_X9_purse l D cy g (xs ((x_3 + (1 : Int32))).toNatClampNeg) (xs ((x_3 + (2 : Int32))).toNatClampNeg) (xs ((x_3 + (3 : Int32))).toNatClampNeg) (xs ((x_3 + (4 : Int32))).toNatClampNeg)  σ h) zs_0 rfl ⟨by decide, by decide⟩ ⟨rfl, rfl⟩ ⟨by decide, by decide⟩ rfl rfl (Nat.le_of_ble_eq_true rfl) dL_law_655 (fun r121 σ120 h => ?_)
          refine zx_pop C dL_law_658 rfl ?_
          refine zx_aload_n C dL_law_659 2 rfl ?_
          refine zx_aload_n C dL_law_660 0 rfl ?_
          refine zx_iload_n C dL_law_661 3 rfl ?_
          refine zx_iconst (v := (1 : Int32)) C dL_law_662 (by decide) ?_
          refine zx_iadd C dL_law_663 ?_
          obtain ⟨bd122, h⟩ := h
          refine zx_sld C hX hbl hbA bd122 dL_law_664 ?_
          refine zx_aload_n C dL_law_665 0 rfl ?_
          refine zx_iload_n C dL_law_666 3 rfl ?_
          refine zx_iconst (v := (2 : Int32)) C dL_law_667 (by decide) ?_
          refine zx_iadd C dL_law_668 ?_
          obtain ⟨bd123, h⟩ := h
          refine zx_sld C hX hbl hbA bd123 dL_law_669 ?_
          refine zx_aload_n C dL_law_670 0 rfl ?_
          refine zx_iload_n C dL_law_671 3 rfl ?_
          refine zx_iconst (v := (3 : Int32)) C dL_law_672 (by decide) ?_
          refine zx_iadd C dL_law_673 ?_
          obtain ⟨bd124, h⟩ := h
          refine zx_sld C hX hbl hbA bd124 dL_law_674 ?_
          refine zx_aload_n C dL_law_675 0 rfl ?_
          refine zx_iload_n C dL_law_676 3 rfl ?_
          refine zx_iconst (v := (4 : Int32)) C dL_law_677 (by decide) ?_
          refine zx_iadd C dL_law_678 ?_
          obtain ⟨bd125, h⟩ := h
          refine zx_sld C hX hbl hbA bd125 dL_law_679 ?_
          refine zx_cVi C [.int (xs ((x_3 + (1 : Int32))).toNatClampNeg), .int (xs ((x_3 + (2 : Int32))).toNatClampNeg), .int (xs ((x_3 + (3 : Int32))).toNatClampNeg), .int (xs ((x_3 + (4 : Int32))).toNatClampNeg)] lk_L_61 (c_X10_purse l D cy g (xs ((x_3 + (1 : Int32))).toNatClampNeg) (xs ((x_3 + (2 : Int32))).toNatClampNeg) (xs ((x_3 + (3 : Int32))).toNatClampNeg) (xs ((x_3 + (4 : Int32))).toNatClampNeg)  σ120 h) zs_223 rfl ⟨by decide, by decide⟩ ⟨rfl, rfl⟩ ⟨by decide, by decide⟩ rfl rfl (Nat.le_of_ble_eq_true rfl) dL_law_680 (fun r127 σ126 h => ?_)
          refine zx_pop C dL_law_683 rfl ?_
          refine zx_goto C 1836 dL_law_684 (by decide) ?_
          obtain ⟨x128, ex128⟩ : ∃ y : Int32, y = (x_3 + (6 : Int32)) := ⟨_, rfl⟩
          replace h := h x128 ex128
          refine zx_iinc (v := x128) (lv' := [(3, .int x128), (0, .ref b), (1, .ref (g 0)), (2, .ref (g 223))]) C dL_law_1836 3 rfl (by rw [ex128]; rfl) (by decide) rfl ?_
          refine zx_goto C 18 dL_law_1839 (by decide) ?_
          refine zx_lv (lv' := [(0, .ref b), (1, .ref (g 0)), (2, .ref (g 223)), (3, .int x128)]) [1, 2, 3, 0] rfl ?_
          exact ih x128 σ126 h
        | 11, _, q =>
          replace h := h.2.2.2.2.2.2.2.2.2.2.2.1 q
          refine zx_tableIn C 687 (11 : Int32) q dL_law_33 (by decide) (by decide) rfl (by decide) ?_
          refine zx_aload_n C dL_law_687 1 rfl ?_
          refine zx_aload_n C dL_law_688 0 rfl ?_
          refine zx_iload_n C dL_law_689 3 rfl ?_
          refine zx_iconst (v := (1 : Int32)) C dL_law_690 (by decide) ?_
          refine zx_iadd C dL_law_691 ?_
          obtain ⟨bd129, h⟩ := h
          refine zx_sld C hX hbl hbA bd129 dL_law_692 ?_
          refine zx_aload_n C dL_law_693 0 rfl ?_
          refine zx_iload_n C dL_law_694 3 rfl ?_
          refine zx_iconst (v := (2 : Int32)) C dL_law_695 (by decide) ?_
          refine zx_iadd C dL_law_696 ?_
          obtain ⟨bd130, h⟩ := h
          refine zx_sld C hX hbl hbA bd130 dL_law_697 ?_
          refine zx_aload_n C dL_law_698 0 rfl ?_
          refine zx_iload_n C dL_law_699 3 rfl ?_
          refine zx_iconst (v := (3 : Int32)) C dL_law_700 (by decide) ?_
          refine zx_iadd C dL_law_701 ?_
          obtain ⟨bd131, h⟩ := h
          refine zx_sld C hX hbl hbA bd131 dL_law_702 ?_
          refine zx_cVi C [.int (xs ((x_3 + (1 : Int32))).toNatClampNeg), .int (xs ((x_3 + (2 : Int32))).toNatClampNeg), .int (xs ((x_3 + (3 : Int32))).toNatClampNeg)] lk_L_62 (c_X9_rest l D cy g (xs ((x_3 + (1 : Int32))).toNatClampNeg) (xs ((x_3 + (2 : Int32))).toNatClampNeg) (xs ((x_3 + (3 : Int32))).toNatClampNeg)  σ h) zs_0 rfl ⟨by decide, by decide⟩ ⟨rfl, rfl⟩ ⟨by decide, by decide⟩ rfl rfl (Nat.le_of_ble_eq_true rfl) dL_law_703 (fun r133 σ132 h => ?_)
          refine zx_pop C dL_law_706 rfl ?_
          refine zx_aload_n C dL_law_707 2 rfl ?_
          refine zx_aload_n C dL_law_708 0 rfl ?_
          refine zx_iload_n C dL_law_709 3 rfl ?_
          refine zx_iconst (v := (1 : Int32)) C dL_law_710 (by decide) ?_
          refine zx_iadd C dL_law_711 ?_
          obtain ⟨bd134, h⟩ := h
          refine zx_sld C hX hbl hbA bd134 dL_law_712 ?_
          refine zx_aload_n C dL_law_713 0 rfl ?_
          refine zx_iload_n C dL_law_714 3 rfl ?_
          refine zx_iconst (v := (2 : Int32)) C dL_law_715 (by decide) ?_
          refine zx_iadd C dL_law_716 ?_
          obtain ⟨bd135, h⟩ := h
          refine zx_sld C hX hbl hbA bd135 dL_law_717 ?_
          refine zx_aload_n C dL_law_718 0 rfl ?_
          refine zx_iload_n C dL_law_719 3 rfl ?_
          refine zx_iconst (v := (3 : Int32)) C dL_law_720 (by decide) ?_
          refine zx_iadd C dL_law_721 ?_
          obtain ⟨bd136, h⟩ := h
          refine zx_sld C hX hbl hbA bd136 dL_law_722 ?_
          refine zx_cVi C [.int (xs ((x_3 + (1 : Int32))).toNatClampNeg), .int (xs ((x_3 + (2 : Int32))).toNatClampNeg), .int (xs ((x_3 + (3 : Int32))).toNatClampNeg)] lk_L_65 (c_X10_rest l D cy g (xs ((x_3 + (1 : Int32))).toNatClampNeg) (xs ((x_3 + (2 : Int32))).toNatClampNeg) (xs ((x_3 + (3 : Int32))).toNatClampNeg)  σ132 h) zs_223 rfl ⟨by decide, by decide⟩ ⟨rfl, rfl⟩ ⟨by decide, by decide⟩ rfl rfl (Nat.le_of_ble_eq_true rfl) dL_law_723 (fun r138 σ137 h => ?_)
          refine zx_pop C dL_law_726 rfl ?_
          refine zx_goto C 1836 dL_law_727 (by decide) ?_
          obtain ⟨x139, ex139⟩ : ∃ y : Int32, y = (x_3 + (6 : Int32)) := ⟨_, rfl⟩
          replace h := h x139 ex139
          refine zx_iinc (v := x139) (lv' := [(3, .int x139), (0, .ref b), (1, .ref (g 0)), (2, .ref (g 223))]) C dL_law_1836 3 rfl (by rw [ex139]; rfl) (by decide) rfl ?_
          refine zx_goto C 18 dL_law_1839 (by decide) ?_
          refine zx_lv (lv' := [(0, .ref b), (1, .ref (g 0)), (2, .ref (g 223)), (3, .int x139)]) [1, 2, 3, 0] rfl ?_
          exact ih x139 σ137 h
        | 12, _, q =>
          replace h := h.2.2.2.2.2.2.2.2.2.2.2.2.1 q
          refine zx_tableIn C 730 (12 : Int32) q dL_law_33 (by decide) (by decide) rfl (by decide) ?_
          refine zx_aload_n C dL_law_730 1 rfl ?_
          refine zx_aload_n C dL_law_731 0 rfl ?_
          refine zx_iload_n C dL_law_732 3 rfl ?_
          refine zx_iconst (v := (1 : Int32)) C dL_law_733 (by decide) ?_
          refine zx_iadd C dL_law_734 ?_
          obtain ⟨bd140, h⟩ := h
          refine zx_sld C hX hbl hbA bd140 dL_law_735 ?_
          refine zx_aload_n C dL_law_736 0 rfl ?_
          refine zx_iload_n C dL_law_737 3 rfl ?_
          refine zx_iconst (v := (2 : Int32)) C dL_law_738 (by decide) ?_
          refine zx_iadd C dL_law_739 ?_
          obtain ⟨bd141, h⟩ := h
          refine zx_sld C hX hbl hbA bd141 dL_law_740 ?_
          refine zx_aload_n C dL_law_741 0 rfl ?_
          refine zx_iload_n C dL_law_742 3 rfl ?_
          refine zx_iconst (v := (3 : Int32)) C dL_law_743 (by decide) ?_
          refine zx_iadd C dL_law_744 ?_
          obtain ⟨bd142, h⟩ := h
          refine zx_sld C hX hbl hbA bd142 dL_law_745 ?_
          refine zx_aload_n C dL_law_746 0 rfl ?_
          refine zx_iload_n C dL_law_747 3 rfl ?_
          refine zx_iconst (v := (4 : Int32)) C dL_law_748 (by decide) ?_
          refine zx_iadd C dL_law_749 ?_
          obtain ⟨bd143, h⟩ := h
          refine zx_sld C hX hbl hbA bd143 dL_law_750 ?_
          refine zx_cVi C [.int (xs ((x_3 + (1 : Int32))).toNatClampNeg), .int (xs ((x_3 + (2 : Int32))).toNatClampNeg), .int (xs ((x_3 + (3 : Int32))).toNatClampNeg), .int (xs ((x_3 + (4 : Int32))).toNatClampNeg)] lk_L_66 (c_X9_gain l D cy g (xs ((x_3 + (1 : Int32))).toNatClampNeg) (xs ((x_3 + (2 : Int32))).toNatClampNeg) (xs ((x_3 + (3 : Int32))).toNatClampNeg) (xs ((x_3 + (4 : Int32))).toNatClampNeg)  σ h) zs_0 rfl ⟨by decide, by decide⟩ ⟨rfl, rfl⟩ ⟨by decide, by decide⟩ rfl rfl (Nat.le_of_ble_eq_true rfl) dL_law_751 (fun r145 σ144 h => ?_)
          refine zx_pop C dL_law_754 rfl ?_
          refine zx_aload_n C dL_law_755 2 rfl ?_
          refine zx_aload_n C dL_law_756 0 rfl ?_
          refine zx_iload_n C dL_law_757 3 rfl ?_
          refine zx_iconst (v := (1 : Int32)) C dL_law_758 (by decide) ?_
          refine zx_iadd C dL_law_759 ?_
          obtain ⟨bd146, h⟩ := h
          refine zx_sld C hX hbl hbA bd146 dL_law_760 ?_
          refine zx_aload_n C dL_law_761 0 rfl ?_
          refine zx_iload_n C dL_law_762 3 rfl ?_
          refine zx_iconst (v := (2 : Int32)) C dL_law_763 (by decide) ?_
          refine zx_iadd C dL_law_764 ?_
          obtain ⟨bd147, h⟩ := h
          refine zx_sld C hX hbl hbA bd147 dL_law_765 ?_
          refine zx_aload_n C dL_law_766 0 rfl ?_
          refine zx_iload_n C dL_law_767 3 rfl ?_
          refine zx_iconst (v := (3 : Int32)) C dL_law_768 (by decide) ?_
          refine zx_iadd C dL_law_769 ?_
          obtain ⟨bd148, h⟩ := h
          refine zx_sld C hX hbl hbA bd148 dL_law_770 ?_
          refine zx_aload_n C dL_law_771 0 rfl ?_
          refine zx_iload_n C dL_law_772 3 rfl ?_
          refine zx_iconst (v := (4 : Int32)) C dL_law_773 (by decide) ?_
          refine zx_iadd C dL_law_774 ?_
          obtain ⟨bd149, h⟩ := h
          refine zx_sld C hX hbl hbA bd149 dL_law_775 ?_
          refine zx_cVi C [.int (xs ((x_3 + (1 : Int32))).toNatClampNeg), .int (xs ((x_3 + (2 : Int32))).toNatClampNeg), .int (xs ((x_3 + (3 : Int32))).toNatClampNeg), .int (xs ((x_3 + (4 : Int32))).toNatClampNeg)] lk_L_69 (c_X10_gain l D cy g (xs ((x_3 + (1 : Int32))).toNatClampNeg) (xs ((x_3 + (2 : Int32))).toNatClampNeg) (xs ((x_3 + (3 : Int32))).toNatClampNeg) (xs ((x_3 + (4 : Int32))).toNatClampNeg)  σ144 h) zs_223 rfl ⟨by decide, by decide⟩ ⟨rfl, rfl⟩ ⟨by decide, by decide⟩ rfl rfl (Nat.le_of_ble_eq_true rfl) dL_law_776 (fun r151 σ150 h => ?_)
          refine zx_pop C dL_law_779 rfl ?_
          refine zx_goto C 1836 dL_law_780 (by decide) ?_
          obtain ⟨x152, ex152⟩ : ∃ y : Int32, y = (x_3 + (6 : Int32)) := ⟨_, rfl⟩
          replace h := h x152 ex152
          refine zx_iinc (v := x152) (lv' := [(3, .int x152), (0, .ref b), (1, .ref (g 0)), (2, .ref (g 223))]) C dL_law_1836 3 rfl (by rw [ex152]; rfl) (by decide) rfl ?_
          refine zx_goto C 18 dL_law_1839 (by decide) ?_
          refine zx_lv (lv' := [(0, .ref b), (1, .ref (g 0)), (2, .ref (g 223)), (3, .int x152)]) [1, 2, 3, 0] rfl ?_
          exact ih x152 σ150 h
        | 13, _, q =>
          replace h := h.2.2.2.2.2.2.2.2.2.2.2.2.2.1 q
          refine zx_tableIn C 783 (13 : Int32) q dL_law_33 (by decide) (by decide) rfl (by decide) ?_
          refine zx_aload_n C dL_law_783 1 rfl ?_
          refine zx_aload_n C dL_law_784 0 rfl ?_
          refine zx_iload_n C dL_law_785 3 rfl ?_
          refine zx_iconst (v := (1 : Int32)) C dL_law_786 (by decide) ?_
          refine zx_iadd C dL_law_787 ?_
          obtain ⟨bd153, h⟩ := h
          refine zx_sld C hX hbl hbA bd153 dL_law_788 ?_
          refine zx_aload_n C dL_law_789 0 rfl ?_
          refine zx_iload_n C dL_law_790 3 rfl ?_
          refine zx_iconst (v := (2 : Int32)) C dL_law_791 (by decide) ?_
          refine zx_iadd C dL_law_792 ?_
          obtain ⟨bd154, h⟩ := h
          refine zx_sld C hX hbl hbA bd154 dL_law_793 ?_
          refine zx_aload_n C dL_law_794 0 rfl ?_
          refine zx_iload_n C dL_law_795 3 rfl ?_
          refine zx_iconst (v := (3 : Int32)) C dL_law_796 (by decide) ?_
          refine zx_iadd C dL_law_797 ?_
          obtain ⟨bd155, h⟩ := h
          refine zx_sld C hX hbl hbA bd155 dL_law_798 ?_
          refine zx_if_eq C 806 dL_law_799 (by decide) (fun q => ?_) (fun q => ?_)
          · replace h := h.1 q
            refine zx_iconst (v := (0 : Int32)) C dL_law_806 (by decide) ?_
            refine zx_cVl C [.int (xs ((x_3 + (1 : Int32))).toNatClampNeg), .int (xs ((x_3 + (2 : Int32))).toNatClampNeg), .int (0 : Int32)] lk_L_70 (c_X9_chance l D cy g (xs ((x_3 + (1 : Int32))).toNatClampNeg) (xs ((x_3 + (2 : Int32))).toNatClampNeg) (0 : Int32)  σ h) zs_0 rfl ⟨by decide, by decide⟩ ⟨rfl, rfl⟩ ⟨by decide, by decide⟩ rfl rfl (Nat.le_of_ble_eq_true rfl) dL_law_807 (fun r157 σ156 h => ?_)
            refine zx_pop2 C dL_law_810 ?_
            refine zx_aload_n C dL_law_811 2 rfl ?_
            refine zx_aload_n C dL_law_812 0 rfl ?_
            refine zx_iload_n C dL_law_813 3 rfl ?_
            refine zx_iconst (v := (1 : Int32)) C dL_law_814 (by decide) ?_
            refine zx_iadd C dL_law_815 ?_
            obtain ⟨bd158, h⟩ := h
            refine zx_sld C hX hbl hbA bd158 dL_law_816 ?_
            refine zx_aload_n C dL_law_817 0 rfl ?_
            refine zx_iload_n C dL_law_818 3 rfl ?_
            refine zx_iconst (v := (2 : Int32)) C dL_law_819 (by decide) ?_
            refine zx_iadd C dL_law_820 ?_
            obtain ⟨bd159, h⟩ := h
            refine zx_sld C hX hbl hbA bd159 dL_law_821 ?_
            refine zx_aload_n C dL_law_822 0 rfl ?_
            refine zx_iload_n C dL_law_823 3 rfl ?_
            refine zx_iconst (v := (3 : Int32)) C dL_law_824 (by decide) ?_
            refine zx_iadd C dL_law_825 ?_
            obtain ⟨bd160, h⟩ := h
            refine zx_sld C hX hbl hbA bd160 dL_law_826 ?_
            refine zx_if_eq C 834 dL_law_827 (by decide) (fun q => ?_) (fun q => ?_)
            · replace h := h.1 q
              refine zx_iconst (v := (0 : Int32)) C dL_law_834 (by decide) ?_
              refine zx_cVl C [.int (xs ((x_3 + (1 : Int32))).toNatClampNeg), .int (xs ((x_3 + (2 : Int32))).toNatClampNeg), .int (0 : Int32)] lk_L_74 (c_X10_chance l D cy g (xs ((x_3 + (1 : Int32))).toNatClampNeg) (xs ((x_3 + (2 : Int32))).toNatClampNeg) (0 : Int32)  σ156 h) zs_223 rfl ⟨by decide, by decide⟩ ⟨rfl, rfl⟩ ⟨by decide, by decide⟩ rfl rfl (Nat.le_of_ble_eq_true rfl) dL_law_835 (fun r162 σ161 h => ?_)
              refine zx_pop2 C dL_law_838 ?_
              refine zx_goto C 1836 dL_law_839 (by decide) ?_
              obtain ⟨x163, ex163⟩ : ∃ y : Int32, y = (x_3 + (6 : Int32)) := ⟨_, rfl⟩
              replace h := h x163 ex163
              refine zx_iinc (v := x163) (lv' := [(3, .int x163), (0, .ref b), (1, .ref (g 0)), (2, .ref (g 223))]) C dL_law_1836 3 rfl (by rw [ex163]; rfl) (by decide) rfl ?_
              refine zx_goto C 18 dL_law_1839 (by decide) ?_
              refine zx_lv (lv' := [(0, .ref b), (1, .ref (g 0)), (2, .ref (g 223)), (3, .int x163)]) [1, 2, 3, 0] rfl ?_
              exact ih x163 σ161 h
            · replace h := h.2 q
              refine zx_iconst (v := (1 : Int32)) C dL_law_830 (by decide) ?_
              refine zx_goto C 835 dL_law_831 (by decide) ?_
              refine zx_cVl C [.int (xs ((x_3 + (1 : Int32))).toNatClampNeg), .int (xs ((x_3 + (2 : Int32))).toNatClampNeg), .int (1 : Int32)] lk_L_74 (c_X10_chance l D cy g (xs ((x_3 + (1 : Int32))).toNatClampNeg) (xs ((x_3 + (2 : Int32))).toNatClampNeg) (1 : Int32)  σ156 h) zs_223 rfl ⟨by decide, by decide⟩ ⟨rfl, rfl⟩ ⟨by decide, by decide⟩ rfl rfl (Nat.le_of_ble_eq_true rfl) dL_law_835 (fun r165 σ164 h => ?_)
              refine zx_pop2 C dL_law_838 ?_
              refine zx_goto C 1836 dL_law_839 (by decide) ?_
              obtain ⟨x166, ex166⟩ : ∃ y : Int32, y = (x_3 + (6 : Int32)) := ⟨_, rfl⟩
              replace h := h x166 ex166
              refine zx_iinc (v := x166) (lv' := [(3, .int x166), (0, .ref b), (1, .ref (g 0)), (2, .ref (g 223))]) C dL_law_1836 3 rfl (by rw [ex166]; rfl) (by decide) rfl ?_
              refine zx_goto C 18 dL_law_1839 (by decide) ?_
              refine zx_lv (lv' := [(0, .ref b), (1, .ref (g 0)), (2, .ref (g 223)), (3, .int x166)]) [1, 2, 3, 0] rfl ?_
              exact ih x166 σ164 h
          · replace h := h.2 q
            refine zx_iconst (v := (1 : Int32)) C dL_law_802 (by decide) ?_
            refine zx_goto C 807 dL_law_803 (by decide) ?_
            refine zx_cVl C [.int (xs ((x_3 + (1 : Int32))).toNatClampNeg), .int (xs ((x_3 + (2 : Int32))).toNatClampNeg), .int (1 : Int32)] lk_L_70 (c_X9_chance l D cy g (xs ((x_3 + (1 : Int32))).toNatClampNeg) (xs ((x_3 + (2 : Int32))).toNatClampNeg) (1 : Int32)  σ h) zs_0 rfl ⟨by decide, by decide⟩ ⟨rfl, rfl⟩ ⟨by decide, by decide⟩ rfl rfl (Nat.le_of_ble_eq_true rfl) dL_law_807 (fun r168 σ167 h => ?_)
            refine zx_pop2 C dL_law_810 ?_
            refine zx_aload_n C dL_law_811 2 rfl ?_
            refine zx_aload_n C dL_law_812 0 rfl ?_
            refine zx_iload_n C dL_law_813 3 rfl ?_
            refine zx_iconst (v := (1 : Int32)) C dL_law_814 (by decide) ?_
            refine zx_iadd C dL_law_815 ?_
            obtain ⟨bd169, h⟩ := h
            refine zx_sld C hX hbl hbA bd169 dL_law_816 ?_
            refine zx_aload_n C dL_law_817 0 rfl ?_
            refine zx_iload_n C dL_law_818 3 rfl ?_
            refine zx_iconst (v := (2 : Int32)) C dL_law_819 (by decide) ?_
            refine zx_iadd C dL_law_820 ?_
            obtain ⟨bd170, h⟩ := h
            refine zx_sld C hX hbl hbA bd170 dL_law_821 ?_
            refine zx_aload_n C dL_law_822 0 rfl ?_
            refine zx_iload_n C dL_law_823 3 rfl ?_
            refine zx_iconst (v := (3 : Int32)) C dL_law_824 (by decide) ?_
            refine zx_iadd C dL_law_825 ?_
            obtain ⟨bd171, h⟩ := h
            refine zx_sld C hX hbl hbA bd171 dL_law_826 ?_
            refine zx_if_eq C 834 dL_law_827 (by decide) (fun q => ?_) (fun q => ?_)
            · replace h := h.1 q
              refine zx_iconst (v := (0 : Int32)) C dL_law_834 (by decide) ?_
              refine zx_cVl C [.int (xs ((x_3 + (1 : Int32))).toNatClampNeg), .int (xs ((x_3 + (2 : Int32))).toNatClampNeg), .int (0 : Int32)] lk_L_74 (c_X10_chance l D cy g (xs ((x_3 + (1 : Int32))).toNatClampNeg) (xs ((x_3 + (2 : Int32))).toNatClampNeg) (0 : Int32)  σ167 h) zs_223 rfl ⟨by decide, by decide⟩ ⟨rfl, rfl⟩ ⟨by decide, by decide⟩ rfl rfl (Nat.le_of_ble_eq_true rfl) dL_law_835 (fun r173 σ172 h => ?_)
              refine zx_pop2 C dL_law_838 ?_
              refine zx_goto C 1836 dL_law_839 (by decide) ?_
              obtain ⟨x174, ex174⟩ : ∃ y : Int32, y = (x_3 + (6 : Int32)) := ⟨_, rfl⟩
              replace h := h x174 ex174
              refine zx_iinc (v := x174) (lv' := [(3, .int x174), (0, .ref b), (1, .ref (g 0)), (2, .ref (g 223))]) C dL_law_1836 3 rfl (by rw [ex174]; rfl) (by decide) rfl ?_
              refine zx_goto C 18 dL_law_1839 (by decide) ?_
              refine zx_lv (lv' := [(0, .ref b), (1, .ref (g 0)), (2, .ref (g 223)), (3, .int x174)]) [1, 2, 3, 0] rfl ?_
              exact ih x174 σ172 h
            · replace h := h.2 q
              refine zx_iconst (v := (1 : Int32)) C dL_law_830 (by decide) ?_
              refine zx_goto C 835 dL_law_831 (by decide) ?_
              refine zx_cVl C [.int (xs ((x_3 + (1 : Int32))).toNatClampNeg), .int (xs ((x_3 + (2 : Int32))).toNatClampNeg), .int (1 : Int32)] lk_L_74 (c_X10_chance l D cy g (xs ((x_3 + (1 : Int32))).toNatClampNeg) (xs ((x_3 + (2 : Int32))).toNatClampNeg) (1 : Int32)  σ167 h) zs_223 rfl ⟨by decide, by decide⟩ ⟨rfl, rfl⟩ ⟨by decide, by decide⟩ rfl rfl (Nat.le_of_ble_eq_true rfl) dL_law_835 (fun r176 σ175 h => ?_)
              refine zx_pop2 C dL_law_838 ?_
              refine zx_goto C 1836 dL_law_839 (by decide) ?_
              obtain ⟨x177, ex177⟩ : ∃ y : Int32, y = (x_3 + (6 : Int32)) := ⟨_, rfl⟩
              replace h := h x177 ex177
              refine zx_iinc (v := x177) (lv' := [(3, .int x177), (0, .ref b), (1, .ref (g 0)), (2, .ref (g 223))]) C dL_law_1836 3 rfl (by rw [ex177]; rfl) (by decide) rfl ?_
              refine zx_goto C 18 dL_law_1839 (by decide) ?_
              refine zx_lv (lv' := [(0, .ref b), (1, .ref (g 0)), (2, .ref (g 223)), (3, .int x177)]) [1, 2, 3, 0] rfl ?_
              exact ih x177 σ175 h
        | 14, _, q =>
          replace h := h.2.2.2.2.2.2.2.2.2.2.2.2.2.2.1 q
          refine zx_tableIn C 842 (14 : Int32) q dL_law_33 (by decide) (by decide) rfl (by decide) ?_
          refine zx_aload_n C dL_law_842 1 rfl ?_
          refine zx_aload_n C dL_law_843 0 rfl ?_
          refine zx_iload_n C dL_law_844 3 rfl ?_
          refine zx_iconst (v := (1 : Int32)) C dL_law_845 (by decide) ?_
          refine zx_iadd C dL_law_846 ?_
          obtain ⟨bd178, h⟩ := h
          refine zx_sld C hX hbl hbA bd178 dL_law_847 ?_
          refine zx_aload_n C dL_law_848 0 rfl ?_
          refine zx_iload_n C dL_law_849 3 rfl ?_
          refine zx_iconst (v := (2 : Int32)) C dL_law_850 (by decide) ?_
          refine zx_iadd C dL_law_851 ?_
          obtain ⟨bd179, h⟩ := h
          refine zx_sld C hX hbl hbA bd179 dL_law_852 ?_
          refine zx_cVi C [.int (xs ((x_3 + (1 : Int32))).toNatClampNeg), .int (xs ((x_3 + (2 : Int32))).toNatClampNeg)] lk_L_75 (c_X9_slack l D cy g (xs ((x_3 + (1 : Int32))).toNatClampNeg) (xs ((x_3 + (2 : Int32))).toNatClampNeg)  σ h) zs_0 rfl ⟨by decide, by decide⟩ ⟨rfl, rfl⟩ ⟨by decide, by decide⟩ rfl rfl (Nat.le_of_ble_eq_true rfl) dL_law_853 (fun r181 σ180 h => ?_)
          refine zx_pop C dL_law_856 rfl ?_
          refine zx_aload_n C dL_law_857 2 rfl ?_
          refine zx_aload_n C dL_law_858 0 rfl ?_
          refine zx_iload_n C dL_law_859 3 rfl ?_
          refine zx_iconst (v := (1 : Int32)) C dL_law_860 (by decide) ?_
          refine zx_iadd C dL_law_861 ?_
          obtain ⟨bd182, h⟩ := h
          refine zx_sld C hX hbl hbA bd182 dL_law_862 ?_
          refine zx_aload_n C dL_law_863 0 rfl ?_
          refine zx_iload_n C dL_law_864 3 rfl ?_
          refine zx_iconst (v := (2 : Int32)) C dL_law_865 (by decide) ?_
          refine zx_iadd C dL_law_866 ?_
          obtain ⟨bd183, h⟩ := h
          refine zx_sld C hX hbl hbA bd183 dL_law_867 ?_
          refine zx_cVi C [.int (xs ((x_3 + (1 : Int32))).toNatClampNeg), .int (xs ((x_3 + (2 : Int32))).toNatClampNeg)] lk_L_78 (c_X10_slack l D cy g (xs ((x_3 + (1 : Int32))).toNatClampNeg) (xs ((x_3 + (2 : Int32))).toNatClampNeg)  σ180 h) zs_223 rfl ⟨by decide, by decide⟩ ⟨rfl, rfl⟩ ⟨by decide, by decide⟩ rfl rfl (Nat.le_of_ble_eq_true rfl) dL_law_868 (fun r185 σ184 h => ?_)
          refine zx_pop C dL_law_871 rfl ?_
          refine zx_goto C 1836 dL_law_872 (by decide) ?_
          obtain ⟨x186, ex186⟩ : ∃ y : Int32, y = (x_3 + (6 : Int32)) := ⟨_, rfl⟩
          replace h := h x186 ex186
          refine zx_iinc (v := x186) (lv' := [(3, .int x186), (0, .ref b), (1, .ref (g 0)), (2, .ref (g 223))]) C dL_law_1836 3 rfl (by rw [ex186]; rfl) (by decide) rfl ?_
          refine zx_goto C 18 dL_law_1839 (by decide) ?_
          refine zx_lv (lv' := [(0, .ref b), (1, .ref (g 0)), (2, .ref (g 223)), (3, .int x186)]) [1, 2, 3, 0] rfl ?_
          exact ih x186 σ184 h
        | 15, _, q =>
          replace h := h.2.2.2.2.2.2.2.2.2.2.2.2.2.2.2.1 q
          refine zx_tableIn C 875 (15 : Int32) q dL_law_33 (by decide) (by decide) rfl (by decide) ?_
          refine zx_aload_n C dL_law_875 1 rfl ?_
          refine zx_aload_n C dL_law_876 0 rfl ?_
          refine zx_iload_n C dL_law_877 3 rfl ?_
          refine zx_iconst (v := (1 : Int32)) C dL_law_878 (by decide) ?_
          refine zx_iadd C dL_law_879 ?_
          obtain ⟨bd187, h⟩ := h
          refine zx_sld C hX hbl hbA bd187 dL_law_880 ?_
          refine zx_aload_n C dL_law_881 0 rfl ?_
          refine zx_iload_n C dL_law_882 3 rfl ?_
          refine zx_iconst (v := (2 : Int32)) C dL_law_883 (by decide) ?_
          refine zx_iadd C dL_law_884 ?_
          obtain ⟨bd188, h⟩ := h
          refine zx_sld C hX hbl hbA bd188 dL_law_885 ?_
          refine zx_aload_n C dL_law_886 0 rfl ?_
          refine zx_iload_n C dL_law_887 3 rfl ?_
          refine zx_iconst (v := (3 : Int32)) C dL_law_888 (by decide) ?_
          refine zx_iadd C dL_law_889 ?_
          obtain ⟨bd189, h⟩ := h
          refine zx_sld C hX hbl hbA bd189 dL_law_890 ?_
          refine zx_aload_n C dL_law_891 0 rfl ?_
          refine zx_iload_n C dL_law_892 3 rfl ?_
          refine zx_iconst (v := (4 : Int32)) C dL_law_893 (by decide) ?_
          refine zx_iadd C dL_law_894 ?_
          obtain ⟨bd190, h⟩ := h
          refine zx_sld C hX hbl hbA bd190 dL_law_895 ?_
          refine zx_aload_n C dL_law_896 0 rfl ?_
          refine zx_iload_n C dL_law_897 3 rfl ?_
          refine zx_iconst (v := (5 : Int32)) C dL_law_898 (by decide) ?_
          refine zx_iadd C dL_law_899 ?_
          obtain ⟨bd191, h⟩ := h
          refine zx_sld C hX hbl hbA bd191 dL_law_900 ?_
          refine zx_cVi C [.int (xs ((x_3 + (1 : Int32))).toNatClampNeg), .int (xs ((x_3 + (2 : Int32))).toNatClampNeg), .int (xs ((x_3 + (3 : Int32))).toNatClampNeg), .int (xs ((x_3 + (4 : Int32))).toNatClampNeg), .int (xs ((x_3 + (5 : Int32))).toNatClampNeg)] lk_L_79 (c_X9_shells l D cy g (xs ((x_3 + (1 : Int32))).toNatClampNeg) (xs ((x_3 + (2 : Int32))).toNatClampNeg) (xs ((x_3 + (3 : Int32))).toNatClampNeg) (xs ((x_3 + (4 : Int32))).toNatClampNeg) (xs ((x_3 + (5 : Int32))).toNatClampNeg)  σ h) zs_0 rfl ⟨by decide, by decide⟩ ⟨rfl, rfl⟩ ⟨by decide, by decide⟩ rfl rfl (Nat.le_of_ble_eq_true rfl) dL_law_901 (fun r193 σ192 h => ?_)
          refine zx_pop C dL_law_904 rfl ?_
          refine zx_aload_n C dL_law_905 2 rfl ?_
          refine zx_aload_n C dL_law_906 0 rfl ?_
          refine zx_iload_n C dL_law_907 3 rfl ?_
          refine zx_iconst (v := (1 : Int32)) C dL_law_908 (by decide) ?_
          refine zx_iadd C dL_law_909 ?_
          obtain ⟨bd194, h⟩ := h
          refine zx_sld C hX hbl hbA bd194 dL_law_910 ?_
          refine zx_aload_n C dL_law_911 0 rfl ?_
          refine zx_iload_n C dL_law_912 3 rfl ?_
          refine zx_iconst (v := (2 : Int32)) C dL_law_913 (by decide) ?_
          refine zx_iadd C dL_law_914 ?_
          obtain ⟨bd195, h⟩ := h
          refine zx_sld C hX hbl hbA bd195 dL_law_915 ?_
          refine zx_aload_n C dL_law_916 0 rfl ?_
          refine zx_iload_n C dL_law_917 3 rfl ?_
          refine zx_iconst (v := (3 : Int32)) C dL_law_918 (by decide) ?_
          refine zx_iadd C dL_law_919 ?_
          obtain ⟨bd196, h⟩ := h
          refine zx_sld C hX hbl hbA bd196 dL_law_920 ?_
          refine zx_aload_n C dL_law_921 0 rfl ?_
          refine zx_iload_n C dL_law_922 3 rfl ?_
          refine zx_iconst (v := (4 : Int32)) C dL_law_923 (by decide) ?_
          refine zx_iadd C dL_law_924 ?_
          obtain ⟨bd197, h⟩ := h
          refine zx_sld C hX hbl hbA bd197 dL_law_925 ?_
          refine zx_aload_n C dL_law_926 0 rfl ?_
          refine zx_iload_n C dL_law_927 3 rfl ?_
          refine zx_iconst (v := (5 : Int32)) C dL_law_928 (by decide) ?_
          refine zx_iadd C dL_law_929 ?_
          obtain ⟨bd198, h⟩ := h
          refine zx_sld C hX hbl hbA bd198 dL_law_930 ?_
          refine zx_cVi C [.int (xs ((x_3 + (1 : Int32))).toNatClampNeg), .int (xs ((x_3 + (2 : Int32))).toNatClampNeg), .int (xs ((x_3 + (3 : Int32))).toNatClampNeg), .int (xs ((x_3 + (4 : Int32))).toNatClampNeg), .int (xs ((x_3 + (5 : Int32))).toNatClampNeg)] lk_L_82 (c_X10_shells l D cy g (xs ((x_3 + (1 : Int32))).toNatClampNeg) (xs ((x_3 + (2 : Int32))).toNatClampNeg) (xs ((x_3 + (3 : Int32))).toNatClampNeg) (xs ((x_3 + (4 : Int32))).toNatClampNeg) (xs ((x_3 + (5 : Int32))).toNatClampNeg)  σ192 h) zs_223 rfl ⟨by decide, by decide⟩ ⟨rfl, rfl⟩ ⟨by decide, by decide⟩ rfl rfl (Nat.le_of_ble_eq_true rfl) dL_law_931 (fun r200 σ199 h => ?_)
          refine zx_pop C dL_law_934 rfl ?_
          refine zx_goto C 1836 dL_law_935 (by decide) ?_
          obtain ⟨x201, ex201⟩ : ∃ y : Int32, y = (x_3 + (6 : Int32)) := ⟨_, rfl⟩
          replace h := h x201 ex201
          refine zx_iinc (v := x201) (lv' := [(3, .int x201), (0, .ref b), (1, .ref (g 0)), (2, .ref (g 223))]) C dL_law_1836 3 rfl (by rw [ex201]; rfl) (by decide) rfl ?_
          refine zx_goto C 18 dL_law_1839 (by decide) ?_
          refine zx_lv (lv' := [(0, .ref b), (1, .ref (g 0)), (2, .ref (g 223)), (3, .int x201)]) [1, 2, 3, 0] rfl ?_
          exact ih x201 σ199 h
        | 16, _, q =>
          replace h := h.2.2.2.2.2.2.2.2.2.2.2.2.2.2.2.2.1 q
          refine zx_tableIn C 938 (16 : Int32) q dL_law_33 (by decide) (by decide) rfl (by decide) ?_
          refine zx_aload_n C dL_law_938 1 rfl ?_
          refine zx_aload_n C dL_law_939 0 rfl ?_
          refine zx_iload_n C dL_law_940 3 rfl ?_
          refine zx_iconst (v := (1 : Int32)) C dL_law_941 (by decide) ?_
          refine zx_iadd C dL_law_942 ?_
          obtain ⟨bd202, h⟩ := h
          refine zx_sld C hX hbl hbA bd202 dL_law_943 ?_
          refine zx_aload_n C dL_law_944 0 rfl ?_
          refine zx_iload_n C dL_law_945 3 rfl ?_
          refine zx_iconst (v := (2 : Int32)) C dL_law_946 (by decide) ?_
          refine zx_iadd C dL_law_947 ?_
          obtain ⟨bd203, h⟩ := h
          refine zx_sld C hX hbl hbA bd203 dL_law_948 ?_
          refine zx_aload_n C dL_law_949 0 rfl ?_
          refine zx_iload_n C dL_law_950 3 rfl ?_
          refine zx_iconst (v := (3 : Int32)) C dL_law_951 (by decide) ?_
          refine zx_iadd C dL_law_952 ?_
          obtain ⟨bd204, h⟩ := h
          refine zx_sld C hX hbl hbA bd204 dL_law_953 ?_
          refine zx_aload_n C dL_law_954 0 rfl ?_
          refine zx_iload_n C dL_law_955 3 rfl ?_
          refine zx_iconst (v := (4 : Int32)) C dL_law_956 (by decide) ?_
          refine zx_iadd C dL_law_957 ?_
          obtain ⟨bd205, h⟩ := h
          refine zx_sld C hX hbl hbA bd205 dL_law_958 ?_
          refine zx_aload_n C dL_law_959 0 rfl ?_
          refine zx_iload_n C dL_law_960 3 rfl ?_
          refine zx_iconst (v := (5 : Int32)) C dL_law_961 (by decide) ?_
          refine zx_iadd C dL_law_962 ?_
          obtain ⟨bd206, h⟩ := h
          refine zx_sld C hX hbl hbA bd206 dL_law_963 ?_
          refine zx_cVi C [.int (xs ((x_3 + (1 : Int32))).toNatClampNeg), .int (xs ((x_3 + (2 : Int32))).toNatClampNeg), .int (xs ((x_3 + (3 : Int32))).toNatClampNeg), .int (xs ((x_3 + (4 : Int32))).toNatClampNeg), .int (xs ((x_3 + (5 : Int32))).toNatClampNeg)] lk_L_83 (c_X9_meet l D cy g (xs ((x_3 + (1 : Int32))).toNatClampNeg) (xs ((x_3 + (2 : Int32))).toNatClampNeg) (xs ((x_3 + (3 : Int32))).toNatClampNeg) (xs ((x_3 + (4 : Int32))).toNatClampNeg) (xs ((x_3 + (5 : Int32))).toNatClampNeg)  σ h) zs_0 rfl ⟨by decide, by decide⟩ ⟨rfl, rfl⟩ ⟨by decide, by decide⟩ rfl rfl (Nat.le_of_ble_eq_true rfl) dL_law_964 (fun r208 σ207 h => ?_)
          refine zx_pop C dL_law_967 rfl ?_
          refine zx_aload_n C dL_law_968 2 rfl ?_
          refine zx_aload_n C dL_law_969 0 rfl ?_
          refine zx_iload_n C dL_law_970 3 rfl ?_
          refine zx_iconst (v := (1 : Int32)) C dL_law_971 (by decide) ?_
          refine zx_iadd C dL_law_972 ?_
          obtain ⟨bd209, h⟩ := h
          refine zx_sld C hX hbl hbA bd209 dL_law_973 ?_
          refine zx_aload_n C dL_law_974 0 rfl ?_
          refine zx_iload_n C dL_law_975 3 rfl ?_
          refine zx_iconst (v := (2 : Int32)) C dL_law_976 (by decide) ?_
          refine zx_iadd C dL_law_977 ?_
          obtain ⟨bd210, h⟩ := h
          refine zx_sld C hX hbl hbA bd210 dL_law_978 ?_
          refine zx_aload_n C dL_law_979 0 rfl ?_
          refine zx_iload_n C dL_law_980 3 rfl ?_
          refine zx_iconst (v := (3 : Int32)) C dL_law_981 (by decide) ?_
          refine zx_iadd C dL_law_982 ?_
          obtain ⟨bd211, h⟩ := h
          refine zx_sld C hX hbl hbA bd211 dL_law_983 ?_
          refine zx_aload_n C dL_law_984 0 rfl ?_
          refine zx_iload_n C dL_law_985 3 rfl ?_
          refine zx_iconst (v := (4 : Int32)) C dL_law_986 (by decide) ?_
          refine zx_iadd C dL_law_987 ?_
          obtain ⟨bd212, h⟩ := h
          refine zx_sld C hX hbl hbA bd212 dL_law_988 ?_
          refine zx_aload_n C dL_law_989 0 rfl ?_
          refine zx_iload_n C dL_law_990 3 rfl ?_
          refine zx_iconst (v := (5 : Int32)) C dL_law_991 (by decide) ?_
          refine zx_iadd C dL_law_992 ?_
          obtain ⟨bd213, h⟩ := h
          refine zx_sld C hX hbl hbA bd213 dL_law_993 ?_
          refine zx_cVi C [.int (xs ((x_3 + (1 : Int32))).toNatClampNeg), .int (xs ((x_3 + (2 : Int32))).toNatClampNeg), .int (xs ((x_3 + (3 : Int32))).toNatClampNeg), .int (xs ((x_3 + (4 : Int32))).toNatClampNeg), .int (xs ((x_3 + (5 : Int32))).toNatClampNeg)] lk_L_86 (c_X10_meet l D cy g (xs ((x_3 + (1 : Int32))).toNatClampNeg) (xs ((x_3 + (2 : Int32))).toNatClampNeg) (xs ((x_3 + (3 : Int32))).toNatClampNeg) (xs ((x_3 + (4 : Int32))).toNatClampNeg) (xs ((x_3 + (5 : Int32))).toNatClampNeg)  σ207 h) zs_223 rfl ⟨by decide, by decide⟩ ⟨rfl, rfl⟩ ⟨by decide, by decide⟩ rfl rfl (Nat.le_of_ble_eq_true rfl) dL_law_994 (fun r215 σ214 h => ?_)
          refine zx_pop C dL_law_997 rfl ?_
          refine zx_goto C 1836 dL_law_998 (by decide) ?_
          obtain ⟨x216, ex216⟩ : ∃ y : Int32, y = (x_3 + (6 : Int32)) := ⟨_, rfl⟩
          replace h := h x216 ex216
          refine zx_iinc (v := x216) (lv' := [(3, .int x216), (0, .ref b), (1, .ref (g 0)), (2, .ref (g 223))]) C dL_law_1836 3 rfl (by rw [ex216]; rfl) (by decide) rfl ?_
          refine zx_goto C 18 dL_law_1839 (by decide) ?_
          refine zx_lv (lv' := [(0, .ref b), (1, .ref (g 0)), (2, .ref (g 223)), (3, .int x216)]) [1, 2, 3, 0] rfl ?_
          exact ih x216 σ214 h
        | 17, _, q =>
          replace h := h.2.2.2.2.2.2.2.2.2.2.2.2.2.2.2.2.2.1 q
          refine zx_tableIn C 1001 (17 : Int32) q dL_law_33 (by decide) (by decide) rfl (by decide) ?_
          refine zx_aload_n C dL_law_1001 1 rfl ?_
          refine zx_aload_n C dL_law_1002 0 rfl ?_
          refine zx_iload_n C dL_law_1003 3 rfl ?_
          refine zx_iconst (v := (1 : Int32)) C dL_law_1004 (by decide) ?_
          refine zx_iadd C dL_law_1005 ?_
          obtain ⟨bd217, h⟩ := h
          refine zx_sld C hX hbl hbA bd217 dL_law_1006 ?_
          refine zx_aload_n C dL_law_1007 0 rfl ?_
          refine zx_iload_n C dL_law_1008 3 rfl ?_
          refine zx_iconst (v := (2 : Int32)) C dL_law_1009 (by decide) ?_
          refine zx_iadd C dL_law_1010 ?_
          obtain ⟨bd218, h⟩ := h
          refine zx_sld C hX hbl hbA bd218 dL_law_1011 ?_
          refine zx_aload_n C dL_law_1012 0 rfl ?_
          refine zx_iload_n C dL_law_1013 3 rfl ?_
          refine zx_iconst (v := (3 : Int32)) C dL_law_1014 (by decide) ?_
          refine zx_iadd C dL_law_1015 ?_
          obtain ⟨bd219, h⟩ := h
          refine zx_sld C hX hbl hbA bd219 dL_law_1016 ?_
          refine zx_cVi C [.int (xs ((x_3 + (1 : Int32))).toNatClampNeg), .int (xs ((x_3 + (2 : Int32))).toNatClampNeg), .int (xs ((x_3 + (3 : Int32))).toNatClampNeg)] lk_L_87 (c_X9_pull l D cy g (xs ((x_3 + (1 : Int32))).toNatClampNeg) (xs ((x_3 + (2 : Int32))).toNatClampNeg) (xs ((x_3 + (3 : Int32))).toNatClampNeg)  σ h) zs_0 rfl ⟨by decide, by decide⟩ ⟨rfl, rfl⟩ ⟨by decide, by decide⟩ rfl rfl (Nat.le_of_ble_eq_true rfl) dL_law_1017 (fun r221 σ220 h => ?_)
          refine zx_pop C dL_law_1020 rfl ?_
          refine zx_aload_n C dL_law_1021 2 rfl ?_
          refine zx_aload_n C dL_law_1022 0 rfl ?_
          refine zx_iload_n C dL_law_1023 3 rfl ?_
          refine zx_iconst (v := (1 : Int32)) C dL_law_1024 (by decide) ?_
          refine zx_iadd C dL_law_1025 ?_
          obtain ⟨bd222, h⟩ := h
          refine zx_sld C hX hbl hbA bd222 dL_law_1026 ?_
          refine zx_aload_n C dL_law_1027 0 rfl ?_
          refine zx_iload_n C dL_law_1028 3 rfl ?_
          refine zx_iconst (v := (2 : Int32)) C dL_law_1029 (by decide) ?_
          refine zx_iadd C dL_law_1030 ?_
          obtain ⟨bd223, h⟩ := h
          refine zx_sld C hX hbl hbA bd223 dL_law_1031 ?_
          refine zx_aload_n C dL_law_1032 0 rfl ?_
          refine zx_iload_n C dL_law_1033 3 rfl ?_
          refine zx_iconst (v := (3 : Int32)) C dL_law_1034 (by decide) ?_
          refine zx_iadd C dL_law_1035 ?_
          obtain ⟨bd224, h⟩ := h
          refine zx_sld C hX hbl hbA bd224 dL_law_1036 ?_
          refine zx_cVi C [.int (xs ((x_3 + (1 : Int32))).toNatClampNeg), .int (xs ((x_3 + (2 : Int32))).toNatClampNeg), .int (xs ((x_3 + (3 : Int32))).toNatClampNeg)] lk_L_90 (c_X10_pull l D cy g (xs ((x_3 + (1 : Int32))).toNatClampNeg) (xs ((x_3 + (2 : Int32))).toNatClampNeg) (xs ((x_3 + (3 : Int32))).toNatClampNeg)  σ220 h) zs_223 rfl ⟨by decide, by decide⟩ ⟨rfl, rfl⟩ ⟨by decide, by decide⟩ rfl rfl (Nat.le_of_ble_eq_true rfl) dL_law_1037 (fun r226 σ225 h => ?_)
          refine zx_pop C dL_law_1040 rfl ?_
          refine zx_goto C 1836 dL_law_1041 (by decide) ?_
          obtain ⟨x227, ex227⟩ : ∃ y : Int32, y = (x_3 + (6 : Int32)) := ⟨_, rfl⟩
          replace h := h x227 ex227
          refine zx_iinc (v := x227) (lv' := [(3, .int x227), (0, .ref b), (1, .ref (g 0)), (2, .ref (g 223))]) C dL_law_1836 3 rfl (by rw [ex227]; rfl) (by decide) rfl ?_
          refine zx_goto C 18 dL_law_1839 (by decide) ?_
          refine zx_lv (lv' := [(0, .ref b), (1, .ref (g 0)), (2, .ref (g 223)), (3, .int x227)]) [1, 2, 3, 0] rfl ?_
          exact ih x227 σ225 h
        | 18, _, q =>
          replace h := h.2.2.2.2.2.2.2.2.2.2.2.2.2.2.2.2.2.2.1 q
          refine zx_tableIn C 1044 (18 : Int32) q dL_law_33 (by decide) (by decide) rfl (by decide) ?_
          refine zx_aload_n C dL_law_1044 1 rfl ?_
          refine zx_aload_n C dL_law_1045 0 rfl ?_
          refine zx_iload_n C dL_law_1046 3 rfl ?_
          refine zx_iconst (v := (1 : Int32)) C dL_law_1047 (by decide) ?_
          refine zx_iadd C dL_law_1048 ?_
          obtain ⟨bd228, h⟩ := h
          refine zx_sld C hX hbl hbA bd228 dL_law_1049 ?_
          refine zx_aload_n C dL_law_1050 0 rfl ?_
          refine zx_iload_n C dL_law_1051 3 rfl ?_
          refine zx_iconst (v := (2 : Int32)) C dL_law_1052 (by decide) ?_
          refine zx_iadd C dL_law_1053 ?_
          obtain ⟨bd229, h⟩ := h
          refine zx_sld C hX hbl hbA bd229 dL_law_1054 ?_
          refine zx_aload_n C dL_law_1055 0 rfl ?_
          refine zx_iload_n C dL_law_1056 3 rfl ?_
          refine zx_iconst (v := (3 : Int32)) C dL_law_1057 (by decide) ?_
          refine zx_iadd C dL_law_1058 ?_
          obtain ⟨bd230, h⟩ := h
          refine zx_sld C hX hbl hbA bd230 dL_law_1059 ?_
          refine zx_aload_n C dL_law_1060 0 rfl ?_
          refine zx_iload_n C dL_law_1061 3 rfl ?_
          refine zx_iconst (v := (4 : Int32)) C dL_law_1062 (by decide) ?_
          refine zx_iadd C dL_law_1063 ?_
          obtain ⟨bd231, h⟩ := h
          refine zx_sld C hX hbl hbA bd231 dL_law_1064 ?_
          refine zx_cVi C [.int (xs ((x_3 + (1 : Int32))).toNatClampNeg), .int (xs ((x_3 + (2 : Int32))).toNatClampNeg), .int (xs ((x_3 + (3 : Int32))).toNatClampNeg), .int (xs ((x_3 + (4 : Int32))).toNatClampNeg)] lk_L_91 (c_X9_played l D cy g (xs ((x_3 + (1 : Int32))).toNatClampNeg) (xs ((x_3 + (2 : Int32))).toNatClampNeg) (xs ((x_3 + (3 : Int32))).toNatClampNeg) (xs ((x_3 + (4 : Int32))).toNatClampNeg)  σ h) zs_0 rfl ⟨by decide, by decide⟩ ⟨rfl, rfl⟩ ⟨by decide, by decide⟩ rfl rfl (Nat.le_of_ble_eq_true rfl) dL_law_1065 (fun r233 σ232 h => ?_)
          refine zx_pop C dL_law_1068 rfl ?_
          refine zx_aload_n C dL_law_1069 2 rfl ?_
          refine zx_aload_n C dL_law_1070 0 rfl ?_
          refine zx_iload_n C dL_law_1071 3 rfl ?_
          refine zx_iconst (v := (1 : Int32)) C dL_law_1072 (by decide) ?_
          refine zx_iadd C dL_law_1073 ?_
          obtain ⟨bd234, h⟩ := h
          refine zx_sld C hX hbl hbA bd234 dL_law_1074 ?_
          refine zx_aload_n C dL_law_1075 0 rfl ?_
          refine zx_iload_n C dL_law_1076 3 rfl ?_
          refine zx_iconst (v := (2 : Int32)) C dL_law_1077 (by decide) ?_
          refine zx_iadd C dL_law_1078 ?_
          obtain ⟨bd235, h⟩ := h
          refine zx_sld C hX hbl hbA bd235 dL_law_1079 ?_
          refine zx_aload_n C dL_law_1080 0 rfl ?_
          refine zx_iload_n C dL_law_1081 3 rfl ?_
          refine zx_iconst (v := (3 : Int32)) C dL_law_1082 (by decide) ?_
          refine zx_iadd C dL_law_1083 ?_
          obtain ⟨bd236, h⟩ := h
          refine zx_sld C hX hbl hbA bd236 dL_law_1084 ?_
          refine zx_aload_n C dL_law_1085 0 rfl ?_
          refine zx_iload_n C dL_law_1086 3 rfl ?_
          refine zx_iconst (v := (4 : Int32)) C dL_law_1087 (by decide) ?_
          refine zx_iadd C dL_law_1088 ?_
          obtain ⟨bd237, h⟩ := h
          refine zx_sld C hX hbl hbA bd237 dL_law_1089 ?_
          refine zx_cVi C [.int (xs ((x_3 + (1 : Int32))).toNatClampNeg), .int (xs ((x_3 + (2 : Int32))).toNatClampNeg), .int (xs ((x_3 + (3 : Int32))).toNatClampNeg), .int (xs ((x_3 + (4 : Int32))).toNatClampNeg)] lk_L_94 (c_X10_played l D cy g (xs ((x_3 + (1 : Int32))).toNatClampNeg) (xs ((x_3 + (2 : Int32))).toNatClampNeg) (xs ((x_3 + (3 : Int32))).toNatClampNeg) (xs ((x_3 + (4 : Int32))).toNatClampNeg)  σ232 h) zs_223 rfl ⟨by decide, by decide⟩ ⟨rfl, rfl⟩ ⟨by decide, by decide⟩ rfl rfl (Nat.le_of_ble_eq_true rfl) dL_law_1090 (fun r239 σ238 h => ?_)
          refine zx_pop C dL_law_1093 rfl ?_
          refine zx_goto C 1836 dL_law_1094 (by decide) ?_
          obtain ⟨x240, ex240⟩ : ∃ y : Int32, y = (x_3 + (6 : Int32)) := ⟨_, rfl⟩
          replace h := h x240 ex240
          refine zx_iinc (v := x240) (lv' := [(3, .int x240), (0, .ref b), (1, .ref (g 0)), (2, .ref (g 223))]) C dL_law_1836 3 rfl (by rw [ex240]; rfl) (by decide) rfl ?_
          refine zx_goto C 18 dL_law_1839 (by decide) ?_
          refine zx_lv (lv' := [(0, .ref b), (1, .ref (g 0)), (2, .ref (g 223)), (3, .int x240)]) [1, 2, 3, 0] rfl ?_
          exact ih x240 σ238 h
        | 19, _, q =>
          replace h := h.2.2.2.2.2.2.2.2.2.2.2.2.2.2.2.2.2.2.2.1 q
          refine zx_tableIn C 1097 (19 : Int32) q dL_law_33 (by decide) (by decide) rfl (by decide) ?_
          refine zx_aload_n C dL_law_1097 1 rfl ?_
          refine zx_aload_n C dL_law_1098 0 rfl ?_
          refine zx_iload_n C dL_law_1099 3 rfl ?_
          refine zx_iconst (v := (1 : Int32)) C dL_law_1100 (by decide) ?_
          refine zx_iadd C dL_law_1101 ?_
          obtain ⟨bd241, h⟩ := h
          refine zx_sld C hX hbl hbA bd241 dL_law_1102 ?_
          refine zx_aload_n C dL_law_1103 0 rfl ?_
          refine zx_iload_n C dL_law_1104 3 rfl ?_
          refine zx_iconst (v := (2 : Int32)) C dL_law_1105 (by decide) ?_
          refine zx_iadd C dL_law_1106 ?_
          obtain ⟨bd242, h⟩ := h
          refine zx_sld C hX hbl hbA bd242 dL_law_1107 ?_
          refine zx_aload_n C dL_law_1108 0 rfl ?_
          refine zx_iload_n C dL_law_1109 3 rfl ?_
          refine zx_iconst (v := (3 : Int32)) C dL_law_1110 (by decide) ?_
          refine zx_iadd C dL_law_1111 ?_
          obtain ⟨bd243, h⟩ := h
          refine zx_sld C hX hbl hbA bd243 dL_law_1112 ?_
          refine zx_cVi C [.int (xs ((x_3 + (1 : Int32))).toNatClampNeg), .int (xs ((x_3 + (2 : Int32))).toNatClampNeg), .int (xs ((x_3 + (3 : Int32))).toNatClampNeg)] lk_L_95 (c_X9_print l D cy g (xs ((x_3 + (1 : Int32))).toNatClampNeg) (xs ((x_3 + (2 : Int32))).toNatClampNeg) (xs ((x_3 + (3 : Int32))).toNatClampNeg)  σ h) zs_0 rfl ⟨by decide, by decide⟩ ⟨rfl, rfl⟩ ⟨by decide, by decide⟩ rfl rfl (Nat.le_of_ble_eq_true rfl) dL_law_1113 (fun r245 σ244 h => ?_)
          refine zx_pop C dL_law_1116 rfl ?_
          refine zx_aload_n C dL_law_1117 2 rfl ?_
          refine zx_aload_n C dL_law_1118 0 rfl ?_
          refine zx_iload_n C dL_law_1119 3 rfl ?_
          refine zx_iconst (v := (1 : Int32)) C dL_law_1120 (by decide) ?_
          refine zx_iadd C dL_law_1121 ?_
          obtain ⟨bd246, h⟩ := h
          refine zx_sld C hX hbl hbA bd246 dL_law_1122 ?_
          refine zx_aload_n C dL_law_1123 0 rfl ?_
          refine zx_iload_n C dL_law_1124 3 rfl ?_
          refine zx_iconst (v := (2 : Int32)) C dL_law_1125 (by decide) ?_
          refine zx_iadd C dL_law_1126 ?_
          obtain ⟨bd247, h⟩ := h
          refine zx_sld C hX hbl hbA bd247 dL_law_1127 ?_
          refine zx_aload_n C dL_law_1128 0 rfl ?_
          refine zx_iload_n C dL_law_1129 3 rfl ?_
          refine zx_iconst (v := (3 : Int32)) C dL_law_1130 (by decide) ?_
          refine zx_iadd C dL_law_1131 ?_
          obtain ⟨bd248, h⟩ := h
          refine zx_sld C hX hbl hbA bd248 dL_law_1132 ?_
          refine zx_cVi C [.int (xs ((x_3 + (1 : Int32))).toNatClampNeg), .int (xs ((x_3 + (2 : Int32))).toNatClampNeg), .int (xs ((x_3 + (3 : Int32))).toNatClampNeg)] lk_L_98 (c_X10_print l D cy g (xs ((x_3 + (1 : Int32))).toNatClampNeg) (xs ((x_3 + (2 : Int32))).toNatClampNeg) (xs ((x_3 + (3 : Int32))).toNatClampNeg)  σ244 h) zs_223 rfl ⟨by decide, by decide⟩ ⟨rfl, rfl⟩ ⟨by decide, by decide⟩ rfl rfl (Nat.le_of_ble_eq_true rfl) dL_law_1133 (fun r250 σ249 h => ?_)
          refine zx_pop C dL_law_1136 rfl ?_
          refine zx_goto C 1836 dL_law_1137 (by decide) ?_
          obtain ⟨x251, ex251⟩ : ∃ y : Int32, y = (x_3 + (6 : Int32)) := ⟨_, rfl⟩
          replace h := h x251 ex251
          refine zx_iinc (v := x251) (lv' := [(3, .int x251), (0, .ref b), (1, .ref (g 0)), (2, .ref (g 223))]) C dL_law_1836 3 rfl (by rw [ex251]; rfl) (by decide) rfl ?_
          refine zx_goto C 18 dL_law_1839 (by decide) ?_
          refine zx_lv (lv' := [(0, .ref b), (1, .ref (g 0)), (2, .ref (g 223)), (3, .int x251)]) [1, 2, 3, 0] rfl ?_
          exact ih x251 σ249 h
        | 20, _, q =>
          replace h := h.2.2.2.2.2.2.2.2.2.2.2.2.2.2.2.2.2.2.2.2.1 q
          refine zx_tableIn C 1140 (20 : Int32) q dL_law_33 (by decide) (by decide) rfl (by decide) ?_
          refine zx_aload_n C dL_law_1140 1 rfl ?_
          refine zx_aload_n C dL_law_1141 0 rfl ?_
          refine zx_iload_n C dL_law_1142 3 rfl ?_
          refine zx_iconst (v := (1 : Int32)) C dL_law_1143 (by decide) ?_
          refine zx_iadd C dL_law_1144 ?_
          obtain ⟨bd252, h⟩ := h
          refine zx_sld C hX hbl hbA bd252 dL_law_1145 ?_
          refine zx_aload_n C dL_law_1146 0 rfl ?_
          refine zx_iload_n C dL_law_1147 3 rfl ?_
          refine zx_iconst (v := (2 : Int32)) C dL_law_1148 (by decide) ?_
          refine zx_iadd C dL_law_1149 ?_
          obtain ⟨bd253, h⟩ := h
          refine zx_sld C hX hbl hbA bd253 dL_law_1150 ?_
          refine zx_aload_n C dL_law_1151 0 rfl ?_
          refine zx_iload_n C dL_law_1152 3 rfl ?_
          refine zx_iconst (v := (3 : Int32)) C dL_law_1153 (by decide) ?_
          refine zx_iadd C dL_law_1154 ?_
          obtain ⟨bd254, h⟩ := h
          refine zx_sld C hX hbl hbA bd254 dL_law_1155 ?_
          refine zx_aload_n C dL_law_1156 0 rfl ?_
          refine zx_iload_n C dL_law_1157 3 rfl ?_
          refine zx_iconst (v := (4 : Int32)) C dL_law_1158 (by decide) ?_
          refine zx_iadd C dL_law_1159 ?_
          obtain ⟨bd255, h⟩ := h
          refine zx_sld C hX hbl hbA bd255 dL_law_1160 ?_
          refine zx_if_eq C 1168 dL_law_1161 (by decide) (fun q => ?_) (fun q => ?_)
          · replace h := h.1 q
            refine zx_iconst (v := (0 : Int32)) C dL_law_1168 (by decide) ?_
            refine zx_cVi C [.int (xs ((x_3 + (1 : Int32))).toNatClampNeg), .int (xs ((x_3 + (2 : Int32))).toNatClampNeg), .int (xs ((x_3 + (3 : Int32))).toNatClampNeg), .int (0 : Int32)] lk_L_99 (c_X9_most l D cy g (xs ((x_3 + (1 : Int32))).toNatClampNeg) (xs ((x_3 + (2 : Int32))).toNatClampNeg) (xs ((x_3 + (3 : Int32))).toNatClampNeg) (0 : Int32)  σ h) zs_0 rfl ⟨by decide, by decide⟩ ⟨rfl, rfl⟩ ⟨by decide, by decide⟩ rfl rfl (Nat.le_of_ble_eq_true rfl) dL_law_1169 (fun r257 σ256 h => ?_)
            refine zx_pop C dL_law_1172 rfl ?_
            refine zx_aload_n C dL_law_1173 2 rfl ?_
            refine zx_aload_n C dL_law_1174 0 rfl ?_
            refine zx_iload_n C dL_law_1175 3 rfl ?_
            refine zx_iconst (v := (1 : Int32)) C dL_law_1176 (by decide) ?_
            refine zx_iadd C dL_law_1177 ?_
            obtain ⟨bd258, h⟩ := h
            refine zx_sld C hX hbl hbA bd258 dL_law_1178 ?_
            refine zx_aload_n C dL_law_1179 0 rfl ?_
            refine zx_iload_n C dL_law_1180 3 rfl ?_
            refine zx_iconst (v := (2 : Int32)) C dL_law_1181 (by decide) ?_
            refine zx_iadd C dL_law_1182 ?_
            obtain ⟨bd259, h⟩ := h
            refine zx_sld C hX hbl hbA bd259 dL_law_1183 ?_
            refine zx_aload_n C dL_law_1184 0 rfl ?_
            refine zx_iload_n C dL_law_1185 3 rfl ?_
            refine zx_iconst (v := (3 : Int32)) C dL_law_1186 (by decide) ?_
            refine zx_iadd C dL_law_1187 ?_
            obtain ⟨bd260, h⟩ := h
            refine zx_sld C hX hbl hbA bd260 dL_law_1188 ?_
            refine zx_aload_n C dL_law_1189 0 rfl ?_
            refine zx_iload_n C dL_law_1190 3 rfl ?_
            refine zx_iconst (v := (4 : Int32)) C dL_law_1191 (by decide) ?_
            refine zx_iadd C dL_law_1192 ?_
            obtain ⟨bd261, h⟩ := h
            refine zx_sld C hX hbl hbA bd261 dL_law_1193 ?_
            refine zx_if_eq C 1201 dL_law_1194 (by decide) (fun q => ?_) (fun q => ?_)
            · replace h := h.1 q
              refine zx_iconst (v := (0 : Int32)) C dL_law_1201 (by decide) ?_
              refine zx_cVi C [.int (xs ((x_3 + (1 : Int32))).toNatClampNeg), .int (xs ((x_3 + (2 : Int32))).toNatClampNeg), .int (xs ((x_3 + (3 : Int32))).toNatClampNeg), .int (0 : Int32)] lk_L_103 (c_X10_most l D cy g (xs ((x_3 + (1 : Int32))).toNatClampNeg) (xs ((x_3 + (2 : Int32))).toNatClampNeg) (xs ((x_3 + (3 : Int32))).toNatClampNeg) (0 : Int32)  σ256 h) zs_223 rfl ⟨by decide, by decide⟩ ⟨rfl, rfl⟩ ⟨by decide, by decide⟩ rfl rfl (Nat.le_of_ble_eq_true rfl) dL_law_1202 (fun r263 σ262 h => ?_)
              refine zx_pop C dL_law_1205 rfl ?_
              refine zx_goto C 1836 dL_law_1206 (by decide) ?_
              obtain ⟨x264, ex264⟩ : ∃ y : Int32, y = (x_3 + (6 : Int32)) := ⟨_, rfl⟩
              replace h := h x264 ex264
              refine zx_iinc (v := x264) (lv' := [(3, .int x264), (0, .ref b), (1, .ref (g 0)), (2, .ref (g 223))]) C dL_law_1836 3 rfl (by rw [ex264]; rfl) (by decide) rfl ?_
              refine zx_goto C 18 dL_law_1839 (by decide) ?_
              refine zx_lv (lv' := [(0, .ref b), (1, .ref (g 0)), (2, .ref (g 223)), (3, .int x264)]) [1, 2, 3, 0] rfl ?_
              exact ih x264 σ262 h
            · replace h := h.2 q
              refine zx_iconst (v := (1 : Int32)) C dL_law_1197 (by decide) ?_
              refine zx_goto C 1202 dL_law_1198 (by decide) ?_
              refine zx_cVi C [.int (xs ((x_3 + (1 : Int32))).toNatClampNeg), .int (xs ((x_3 + (2 : Int32))).toNatClampNeg), .int (xs ((x_3 + (3 : Int32))).toNatClampNeg), .int (1 : Int32)] lk_L_103 (c_X10_most l D cy g (xs ((x_3 + (1 : Int32))).toNatClampNeg) (xs ((x_3 + (2 : Int32))).toNatClampNeg) (xs ((x_3 + (3 : Int32))).toNatClampNeg) (1 : Int32)  σ256 h) zs_223 rfl ⟨by decide, by decide⟩ ⟨rfl, rfl⟩ ⟨by decide, by decide⟩ rfl rfl (Nat.le_of_ble_eq_true rfl) dL_law_1202 (fun r266 σ265 h => ?_)
              refine zx_pop C dL_law_1205 rfl ?_
              refine zx_goto C 1836 dL_law_1206 (by decide) ?_
              obtain ⟨x267, ex267⟩ : ∃ y : Int32, y = (x_3 + (6 : Int32)) := ⟨_, rfl⟩
              replace h := h x267 ex267
              refine zx_iinc (v := x267) (lv' := [(3, .int x267), (0, .ref b), (1, .ref (g 0)), (2, .ref (g 223))]) C dL_law_1836 3 rfl (by rw [ex267]; rfl) (by decide) rfl ?_
              refine zx_goto C 18 dL_law_1839 (by decide) ?_
              refine zx_lv (lv' := [(0, .ref b), (1, .ref (g 0)), (2, .ref (g 223)), (3, .int x267)]) [1, 2, 3, 0] rfl ?_
              exact ih x267 σ265 h
          · replace h := h.2 q
            refine zx_iconst (v := (1 : Int32)) C dL_law_1164 (by decide) ?_
            refine zx_goto C 1169 dL_law_1165 (by decide) ?_
            refine zx_cVi C [.int (xs ((x_3 + (1 : Int32))).toNatClampNeg), .int (xs ((x_3 + (2 : Int32))).toNatClampNeg), .int (xs ((x_3 + (3 : Int32))).toNatClampNeg), .int (1 : Int32)] lk_L_99 (c_X9_most l D cy g (xs ((x_3 + (1 : Int32))).toNatClampNeg) (xs ((x_3 + (2 : Int32))).toNatClampNeg) (xs ((x_3 + (3 : Int32))).toNatClampNeg) (1 : Int32)  σ h) zs_0 rfl ⟨by decide, by decide⟩ ⟨rfl, rfl⟩ ⟨by decide, by decide⟩ rfl rfl (Nat.le_of_ble_eq_true rfl) dL_law_1169 (fun r269 σ268 h => ?_)
            refine zx_pop C dL_law_1172 rfl ?_
            refine zx_aload_n C dL_law_1173 2 rfl ?_
            refine zx_aload_n C dL_law_1174 0 rfl ?_
            refine zx_iload_n C dL_law_1175 3 rfl ?_
            refine zx_iconst (v := (1 : Int32)) C dL_law_1176 (by decide) ?_
            refine zx_iadd C dL_law_1177 ?_
            obtain ⟨bd270, h⟩ := h
            refine zx_sld C hX hbl hbA bd270 dL_law_1178 ?_
            refine zx_aload_n C dL_law_1179 0 rfl ?_
            refine zx_iload_n C dL_law_1180 3 rfl ?_
            refine zx_iconst (v := (2 : Int32)) C dL_law_1181 (by decide) ?_
            refine zx_iadd C dL_law_1182 ?_
            obtain ⟨bd271, h⟩ := h
            refine zx_sld C hX hbl hbA bd271 dL_law_1183 ?_
            refine zx_aload_n C dL_law_1184 0 rfl ?_
            refine zx_iload_n C dL_law_1185 3 rfl ?_
            refine zx_iconst (v := (3 : Int32)) C dL_law_1186 (by decide) ?_
            refine zx_iadd C dL_law_1187 ?_
            obtain ⟨bd272, h⟩ := h
            refine zx_sld C hX hbl hbA bd272 dL_law_1188 ?_
            refine zx_aload_n C dL_law_1189 0 rfl ?_
            refine zx_iload_n C dL_law_1190 3 rfl ?_
            refine zx_iconst (v := (4 : Int32)) C dL_law_1191 (by decide) ?_
            refine zx_iadd C dL_law_1192 ?_
            obtain ⟨bd273, h⟩ := h
            refine zx_sld C hX hbl hbA bd273 dL_law_1193 ?_
            refine zx_if_eq C 1201 dL_law_1194 (by decide) (fun q => ?_) (fun q => ?_)
            · replace h := h.1 q
              refine zx_iconst (v := (0 : Int32)) C dL_law_1201 (by decide) ?_
              refine zx_cVi C [.int (xs ((x_3 + (1 : Int32))).toNatClampNeg), .int (xs ((x_3 + (2 : Int32))).toNatClampNeg), .int (xs ((x_3 + (3 : Int32))).toNatClampNeg), .int (0 : Int32)] lk_L_103 (c_X10_most l D cy g (xs ((x_3 + (1 : Int32))).toNatClampNeg) (xs ((x_3 + (2 : Int32))).toNatClampNeg) (xs ((x_3 + (3 : Int32))).toNatClampNeg) (0 : Int32)  σ268 h) zs_223 rfl ⟨by decide, by decide⟩ ⟨rfl, rfl⟩ ⟨by decide, by decide⟩ rfl rfl (Nat.le_of_ble_eq_true rfl) dL_law_1202 (fun r275 σ274 h => ?_)
              refine zx_pop C dL_law_1205 rfl ?_
              refine zx_goto C 1836 dL_law_1206 (by decide) ?_
              obtain ⟨x276, ex276⟩ : ∃ y : Int32, y = (x_3 + (6 : Int32)) := ⟨_, rfl⟩
              replace h := h x276 ex276
              refine zx_iinc (v := x276) (lv' := [(3, .int x276), (0, .ref b), (1, .ref (g 0)), (2, .ref (g 223))]) C dL_law_1836 3 rfl (by rw [ex276]; rfl) (by decide) rfl ?_
              refine zx_goto C 18 dL_law_1839 (by decide) ?_
              refine zx_lv (lv' := [(0, .ref b), (1, .ref (g 0)), (2, .ref (g 223)), (3, .int x276)]) [1, 2, 3, 0] rfl ?_
              exact ih x276 σ274 h
            · replace h := h.2 q
              refine zx_iconst (v := (1 : Int32)) C dL_law_1197 (by decide) ?_
              refine zx_goto C 1202 dL_law_1198 (by decide) ?_
              refine zx_cVi C [.int (xs ((x_3 + (1 : Int32))).toNatClampNeg), .int (xs ((x_3 + (2 : Int32))).toNatClampNeg), .int (xs ((x_3 + (3 : Int32))).toNatClampNeg), .int (1 : Int32)] lk_L_103 (c_X10_most l D cy g (xs ((x_3 + (1 : Int32))).toNatClampNeg) (xs ((x_3 + (2 : Int32))).toNatClampNeg) (xs ((x_3 + (3 : Int32))).toNatClampNeg) (1 : Int32)  σ268 h) zs_223 rfl ⟨by decide, by decide⟩ ⟨rfl, rfl⟩ ⟨by decide, by decide⟩ rfl rfl (Nat.le_of_ble_eq_true rfl) dL_law_1202 (fun r278 σ277 h => ?_)
              refine zx_pop C dL_law_1205 rfl ?_
              refine zx_goto C 1836 dL_law_1206 (by decide) ?_
              obtain ⟨x279, ex279⟩ : ∃ y : Int32, y = (x_3 + (6 : Int32)) := ⟨_, rfl⟩
              replace h := h x279 ex279
              refine zx_iinc (v := x279) (lv' := [(3, .int x279), (0, .ref b), (1, .ref (g 0)), (2, .ref (g 223))]) C dL_law_1836 3 rfl (by rw [ex279]; rfl) (by decide) rfl ?_
              refine zx_goto C 18 dL_law_1839 (by decide) ?_
              refine zx_lv (lv' := [(0, .ref b), (1, .ref (g 0)), (2, .ref (g 223)), (3, .int x279)]) [1, 2, 3, 0] rfl ?_
              exact ih x279 σ277 h
        | 21, _, q =>
          replace h := h.2.2.2.2.2.2.2.2.2.2.2.2.2.2.2.2.2.2.2.2.2.1 q
          refine zx_tableIn C 1209 (21 : Int32) q dL_law_33 (by decide) (by decide) rfl (by decide) ?_
          refine zx_aload_n C dL_law_1209 1 rfl ?_
          refine zx_aload_n C dL_law_1210 0 rfl ?_
          refine zx_iload_n C dL_law_1211 3 rfl ?_
          refine zx_iconst (v := (1 : Int32)) C dL_law_1212 (by decide) ?_
          refine zx_iadd C dL_law_1213 ?_
          obtain ⟨bd280, h⟩ := h
          refine zx_sld C hX hbl hbA bd280 dL_law_1214 ?_
          refine zx_aload_n C dL_law_1215 0 rfl ?_
          refine zx_iload_n C dL_law_1216 3 rfl ?_
          refine zx_iconst (v := (2 : Int32)) C dL_law_1217 (by decide) ?_
          refine zx_iadd C dL_law_1218 ?_
          obtain ⟨bd281, h⟩ := h
          refine zx_sld C hX hbl hbA bd281 dL_law_1219 ?_
          refine zx_aload_n C dL_law_1220 0 rfl ?_
          refine zx_iload_n C dL_law_1221 3 rfl ?_
          refine zx_iconst (v := (3 : Int32)) C dL_law_1222 (by decide) ?_
          refine zx_iadd C dL_law_1223 ?_
          obtain ⟨bd282, h⟩ := h
          refine zx_sld C hX hbl hbA bd282 dL_law_1224 ?_
          refine zx_aload_n C dL_law_1225 0 rfl ?_
          refine zx_iload_n C dL_law_1226 3 rfl ?_
          refine zx_iconst (v := (4 : Int32)) C dL_law_1227 (by decide) ?_
          refine zx_iadd C dL_law_1228 ?_
          obtain ⟨bd283, h⟩ := h
          refine zx_sld C hX hbl hbA bd283 dL_law_1229 ?_
          refine zx_if_eq C 1237 dL_law_1230 (by decide) (fun q => ?_) (fun q => ?_)
          · replace h := h.1 q
            refine zx_iconst (v := (0 : Int32)) C dL_law_1237 (by decide) ?_
            refine zx_cVi C [.int (xs ((x_3 + (1 : Int32))).toNatClampNeg), .int (xs ((x_3 + (2 : Int32))).toNatClampNeg), .int (xs ((x_3 + (3 : Int32))).toNatClampNeg), .int (0 : Int32)] lk_L_104 (c_X9_weeks l D cy g (xs ((x_3 + (1 : Int32))).toNatClampNeg) (xs ((x_3 + (2 : Int32))).toNatClampNeg) (xs ((x_3 + (3 : Int32))).toNatClampNeg) (0 : Int32)  σ h) zs_0 rfl ⟨by decide, by decide⟩ ⟨rfl, rfl⟩ ⟨by decide, by decide⟩ rfl rfl (Nat.le_of_ble_eq_true rfl) dL_law_1238 (fun r285 σ284 h => ?_)
            refine zx_pop C dL_law_1241 rfl ?_
            refine zx_aload_n C dL_law_1242 2 rfl ?_
            refine zx_aload_n C dL_law_1243 0 rfl ?_
            refine zx_iload_n C dL_law_1244 3 rfl ?_
            refine zx_iconst (v := (1 : Int32)) C dL_law_1245 (by decide) ?_
            refine zx_iadd C dL_law_1246 ?_
            obtain ⟨bd286, h⟩ := h
            refine zx_sld C hX hbl hbA bd286 dL_law_1247 ?_
            refine zx_aload_n C dL_law_1248 0 rfl ?_
            refine zx_iload_n C dL_law_1249 3 rfl ?_
            refine zx_iconst (v := (2 : Int32)) C dL_law_1250 (by decide) ?_
            refine zx_iadd C dL_law_1251 ?_
            obtain ⟨bd287, h⟩ := h
            refine zx_sld C hX hbl hbA bd287 dL_law_1252 ?_
            refine zx_aload_n C dL_law_1253 0 rfl ?_
            refine zx_iload_n C dL_law_1254 3 rfl ?_
            refine zx_iconst (v := (3 : Int32)) C dL_law_1255 (by decide) ?_
            refine zx_iadd C dL_law_1256 ?_
            obtain ⟨bd288, h⟩ := h
            refine zx_sld C hX hbl hbA bd288 dL_law_1257 ?_
            refine zx_aload_n C dL_law_1258 0 rfl ?_
            refine zx_iload_n C dL_law_1259 3 rfl ?_
            refine zx_iconst (v := (4 : Int32)) C dL_law_1260 (by decide) ?_
            refine zx_iadd C dL_law_1261 ?_
            obtain ⟨bd289, h⟩ := h
            refine zx_sld C hX hbl hbA bd289 dL_law_1262 ?_
            refine zx_if_eq C 1270 dL_law_1263 (by decide) (fun q => ?_) (fun q => ?_)
            · replace h := h.1 q
              refine zx_iconst (v := (0 : Int32)) C dL_law_1270 (by decide) ?_
              refine zx_cVi C [.int (xs ((x_3 + (1 : Int32))).toNatClampNeg), .int (xs ((x_3 + (2 : Int32))).toNatClampNeg), .int (xs ((x_3 + (3 : Int32))).toNatClampNeg), .int (0 : Int32)] lk_L_107 (c_X10_weeks l D cy g (xs ((x_3 + (1 : Int32))).toNatClampNeg) (xs ((x_3 + (2 : Int32))).toNatClampNeg) (xs ((x_3 + (3 : Int32))).toNatClampNeg) (0 : Int32)  σ284 h) zs_223 rfl ⟨by decide, by decide⟩ ⟨rfl, rfl⟩ ⟨by decide, by decide⟩ rfl rfl (Nat.le_of_ble_eq_true rfl) dL_law_1271 (fun r291 σ290 h => ?_)
              refine zx_pop C dL_law_1274 rfl ?_
              refine zx_goto C 1836 dL_law_1275 (by decide) ?_
              obtain ⟨x292, ex292⟩ : ∃ y : Int32, y = (x_3 + (6 : Int32)) := ⟨_, rfl⟩
              replace h := h x292 ex292
              refine zx_iinc (v := x292) (lv' := [(3, .int x292), (0, .ref b), (1, .ref (g 0)), (2, .ref (g 223))]) C dL_law_1836 3 rfl (by rw [ex292]; rfl) (by decide) rfl ?_
              refine zx_goto C 18 dL_law_1839 (by decide) ?_
              refine zx_lv (lv' := [(0, .ref b), (1, .ref (g 0)), (2, .ref (g 223)), (3, .int x292)]) [1, 2, 3, 0] rfl ?_
              exact ih x292 σ290 h
            · replace h := h.2 q
              refine zx_iconst (v := (1 : Int32)) C dL_law_1266 (by decide) ?_
              refine zx_goto C 1271 dL_law_1267 (by decide) ?_
              refine zx_cVi C [.int (xs ((x_3 + (1 : Int32))).toNatClampNeg), .int (xs ((x_3 + (2 : Int32))).toNatClampNeg), .int (xs ((x_3 + (3 : Int32))).toNatClampNeg), .int (1 : Int32)] lk_L_107 (c_X10_weeks l D cy g (xs ((x_3 + (1 : Int32))).toNatClampNeg) (xs ((x_3 + (2 : Int32))).toNatClampNeg) (xs ((x_3 + (3 : Int32))).toNatClampNeg) (1 : Int32)  σ284 h) zs_223 rfl ⟨by decide, by decide⟩ ⟨rfl, rfl⟩ ⟨by decide, by decide⟩ rfl rfl (Nat.le_of_ble_eq_true rfl) dL_law_1271 (fun r294 σ293 h => ?_)
              refine zx_pop C dL_law_1274 rfl ?_
              refine zx_goto C 1836 dL_law_1275 (by decide) ?_
              obtain ⟨x295, ex295⟩ : ∃ y : Int32, y = (x_3 + (6 : Int32)) := ⟨_, rfl⟩
              replace h := h x295 ex295
              refine zx_iinc (v := x295) (lv' := [(3, .int x295), (0, .ref b), (1, .ref (g 0)), (2, .ref (g 223))]) C dL_law_1836 3 rfl (by rw [ex295]; rfl) (by decide) rfl ?_
              refine zx_goto C 18 dL_law_1839 (by decide) ?_
              refine zx_lv (lv' := [(0, .ref b), (1, .ref (g 0)), (2, .ref (g 223)), (3, .int x295)]) [1, 2, 3, 0] rfl ?_
              exact ih x295 σ293 h
          · replace h := h.2 q
            refine zx_iconst (v := (1 : Int32)) C dL_law_1233 (by decide) ?_
            refine zx_goto C 1238 dL_law_1234 (by decide) ?_
            refine zx_cVi C [.int (xs ((x_3 + (1 : Int32))).toNatClampNeg), .int (xs ((x_3 + (2 : Int32))).toNatClampNeg), .int (xs ((x_3 + (3 : Int32))).toNatClampNeg), .int (1 : Int32)] lk_L_104 (c_X9_weeks l D cy g (xs ((x_3 + (1 : Int32))).toNatClampNeg) (xs ((x_3 + (2 : Int32))).toNatClampNeg) (xs ((x_3 + (3 : Int32))).toNatClampNeg) (1 : Int32)  σ h) zs_0 rfl ⟨by decide, by decide⟩ ⟨rfl, rfl⟩ ⟨by decide, by decide⟩ rfl rfl (Nat.le_of_ble_eq_true rfl) dL_law_1238 (fun r297 σ296 h => ?_)
            refine zx_pop C dL_law_1241 rfl ?_
            refine zx_aload_n C dL_law_1242 2 rfl ?_
            refine zx_aload_n C dL_law_1243 0 rfl ?_
            refine zx_iload_n C dL_law_1244 3 rfl ?_
            refine zx_iconst (v := (1 : Int32)) C dL_law_1245 (by decide) ?_
            refine zx_iadd C dL_law_1246 ?_
            obtain ⟨bd298, h⟩ := h
            refine zx_sld C hX hbl hbA bd298 dL_law_1247 ?_
            refine zx_aload_n C dL_law_1248 0 rfl ?_
            refine zx_iload_n C dL_law_1249 3 rfl ?_
            refine zx_iconst (v := (2 : Int32)) C dL_law_1250 (by decide) ?_
            refine zx_iadd C dL_law_1251 ?_
            obtain ⟨bd299, h⟩ := h
            refine zx_sld C hX hbl hbA bd299 dL_law_1252 ?_
            refine zx_aload_n C dL_law_1253 0 rfl ?_
            refine zx_iload_n C dL_law_1254 3 rfl ?_
            refine zx_iconst (v := (3 : Int32)) C dL_law_1255 (by decide) ?_
            refine zx_iadd C dL_law_1256 ?_
            obtain ⟨bd300, h⟩ := h
            refine zx_sld C hX hbl hbA bd300 dL_law_1257 ?_
            refine zx_aload_n C dL_law_1258 0 rfl ?_
            refine zx_iload_n C dL_law_1259 3 rfl ?_
            refine zx_iconst (v := (4 : Int32)) C dL_law_1260 (by decide) ?_
            refine zx_iadd C dL_law_1261 ?_
            obtain ⟨bd301, h⟩ := h
            refine zx_sld C hX hbl hbA bd301 dL_law_1262 ?_
            refine zx_if_eq C 1270 dL_law_1263 (by decide) (fun q => ?_) (fun q => ?_)
            · replace h := h.1 q
              refine zx_iconst (v := (0 : Int32)) C dL_law_1270 (by decide) ?_
              refine zx_cVi C [.int (xs ((x_3 + (1 : Int32))).toNatClampNeg), .int (xs ((x_3 + (2 : Int32))).toNatClampNeg), .int (xs ((x_3 + (3 : Int32))).toNatClampNeg), .int (0 : Int32)] lk_L_107 (c_X10_weeks l D cy g (xs ((x_3 + (1 : Int32))).toNatClampNeg) (xs ((x_3 + (2 : Int32))).toNatClampNeg) (xs ((x_3 + (3 : Int32))).toNatClampNeg) (0 : Int32)  σ296 h) zs_223 rfl ⟨by decide, by decide⟩ ⟨rfl, rfl⟩ ⟨by decide, by decide⟩ rfl rfl (Nat.le_of_ble_eq_true rfl) dL_law_1271 (fun r303 σ302 h => ?_)
              refine zx_pop C dL_law_1274 rfl ?_
              refine zx_goto C 1836 dL_law_1275 (by decide) ?_
              obtain ⟨x304, ex304⟩ : ∃ y : Int32, y = (x_3 + (6 : Int32)) := ⟨_, rfl⟩
              replace h := h x304 ex304
              refine zx_iinc (v := x304) (lv' := [(3, .int x304), (0, .ref b), (1, .ref (g 0)), (2, .ref (g 223))]) C dL_law_1836 3 rfl (by rw [ex304]; rfl) (by decide) rfl ?_
              refine zx_goto C 18 dL_law_1839 (by decide) ?_
              refine zx_lv (lv' := [(0, .ref b), (1, .ref (g 0)), (2, .ref (g 223)), (3, .int x304)]) [1, 2, 3, 0] rfl ?_
              exact ih x304 σ302 h
            · replace h := h.2 q
              refine zx_iconst (v := (1 : Int32)) C dL_law_1266 (by decide) ?_
              refine zx_goto C 1271 dL_law_1267 (by decide) ?_
              refine zx_cVi C [.int (xs ((x_3 + (1 : Int32))).toNatClampNeg), .int (xs ((x_3 + (2 : Int32))).toNatClampNeg), .int (xs ((x_3 + (3 : Int32))).toNatClampNeg), .int (1 : Int32)] lk_L_107 (c_X10_weeks l D cy g (xs ((x_3 + (1 : Int32))).toNatClampNeg) (xs ((x_3 + (2 : Int32))).toNatClampNeg) (xs ((x_3 + (3 : Int32))).toNatClampNeg) (1 : Int32)  σ296 h) zs_223 rfl ⟨by decide, by decide⟩ ⟨rfl, rfl⟩ ⟨by decide, by decide⟩ rfl rfl (Nat.le_of_ble_eq_true rfl) dL_law_1271 (fun r306 σ305 h => ?_)
              refine zx_pop C dL_law_1274 rfl ?_
              refine zx_goto C 1836 dL_law_1275 (by decide) ?_
              obtain ⟨x307, ex307⟩ : ∃ y : Int32, y = (x_3 + (6 : Int32)) := ⟨_, rfl⟩
              replace h := h x307 ex307
              refine zx_iinc (v := x307) (lv' := [(3, .int x307), (0, .ref b), (1, .ref (g 0)), (2, .ref (g 223))]) C dL_law_1836 3 rfl (by rw [ex307]; rfl) (by decide) rfl ?_
              refine zx_goto C 18 dL_law_1839 (by decide) ?_
              refine zx_lv (lv' := [(0, .ref b), (1, .ref (g 0)), (2, .ref (g 223)), (3, .int x307)]) [1, 2, 3, 0] rfl ?_
              exact ih x307 σ305 h
        | 22, _, q =>
          replace h := h.2.2.2.2.2.2.2.2.2.2.2.2.2.2.2.2.2.2.2.2.2.2.1 q
          refine zx_tableIn C 1278 (22 : Int32) q dL_law_33 (by decide) (by decide) rfl (by decide) ?_
          refine zx_aload_n C dL_law_1278 1 rfl ?_
          refine zx_aload_n C dL_law_1279 0 rfl ?_
          refine zx_iload_n C dL_law_1280 3 rfl ?_
          refine zx_iconst (v := (1 : Int32)) C dL_law_1281 (by decide) ?_
          refine zx_iadd C dL_law_1282 ?_
          obtain ⟨bd308, h⟩ := h
          refine zx_sld C hX hbl hbA bd308 dL_law_1283 ?_
          refine zx_aload_n C dL_law_1284 0 rfl ?_
          refine zx_iload_n C dL_law_1285 3 rfl ?_
          refine zx_iconst (v := (2 : Int32)) C dL_law_1286 (by decide) ?_
          refine zx_iadd C dL_law_1287 ?_
          obtain ⟨bd309, h⟩ := h
          refine zx_sld C hX hbl hbA bd309 dL_law_1288 ?_
          refine zx_aload_n C dL_law_1289 0 rfl ?_
          refine zx_iload_n C dL_law_1290 3 rfl ?_
          refine zx_iconst (v := (3 : Int32)) C dL_law_1291 (by decide) ?_
          refine zx_iadd C dL_law_1292 ?_
          obtain ⟨bd310, h⟩ := h
          refine zx_sld C hX hbl hbA bd310 dL_law_1293 ?_
          refine zx_cVi C [.int (xs ((x_3 + (1 : Int32))).toNatClampNeg), .int (xs ((x_3 + (2 : Int32))).toNatClampNeg), .int (xs ((x_3 + (3 : Int32))).toNatClampNeg)] lk_L_108 (c_X9_calm l D cy g (xs ((x_3 + (1 : Int32))).toNatClampNeg) (xs ((x_3 + (2 : Int32))).toNatClampNeg) (xs ((x_3 + (3 : Int32))).toNatClampNeg)  σ h) zs_0 rfl ⟨by decide, by decide⟩ ⟨rfl, rfl⟩ ⟨by decide, by decide⟩ rfl rfl (Nat.le_of_ble_eq_true rfl) dL_law_1294 (fun r312 σ311 h => ?_)
          refine zx_pop C dL_law_1297 rfl ?_
          refine zx_aload_n C dL_law_1298 2 rfl ?_
          refine zx_aload_n C dL_law_1299 0 rfl ?_
          refine zx_iload_n C dL_law_1300 3 rfl ?_
          refine zx_iconst (v := (1 : Int32)) C dL_law_1301 (by decide) ?_
          refine zx_iadd C dL_law_1302 ?_
          obtain ⟨bd313, h⟩ := h
          refine zx_sld C hX hbl hbA bd313 dL_law_1303 ?_
          refine zx_aload_n C dL_law_1304 0 rfl ?_
          refine zx_iload_n C dL_law_1305 3 rfl ?_
          refine zx_iconst (v := (2 : Int32)) C dL_law_1306 (by decide) ?_
          refine zx_iadd C dL_law_1307 ?_
          obtain ⟨bd314, h⟩ := h
          refine zx_sld C hX hbl hbA bd314 dL_law_1308 ?_
          refine zx_aload_n C dL_law_1309 0 rfl ?_
          refine zx_iload_n C dL_law_1310 3 rfl ?_
          refine zx_iconst (v := (3 : Int32)) C dL_law_1311 (by decide) ?_
          refine zx_iadd C dL_law_1312 ?_
          obtain ⟨bd315, h⟩ := h
          refine zx_sld C hX hbl hbA bd315 dL_law_1313 ?_
          refine zx_cVi C [.int (xs ((x_3 + (1 : Int32))).toNatClampNeg), .int (xs ((x_3 + (2 : Int32))).toNatClampNeg), .int (xs ((x_3 + (3 : Int32))).toNatClampNeg)] lk_L_111 (c_X10_calm l D cy g (xs ((x_3 + (1 : Int32))).toNatClampNeg) (xs ((x_3 + (2 : Int32))).toNatClampNeg) (xs ((x_3 + (3 : Int32))).toNatClampNeg)  σ311 h) zs_223 rfl ⟨by decide, by decide⟩ ⟨rfl, rfl⟩ ⟨by decide, by decide⟩ rfl rfl (Nat.le_of_ble_eq_true rfl) dL_law_1314 (fun r317 σ316 h => ?_)
          refine zx_pop C dL_law_1317 rfl ?_
          refine zx_goto C 1836 dL_law_1318 (by decide) ?_
          obtain ⟨x318, ex318⟩ : ∃ y : Int32, y = (x_3 + (6 : Int32)) := ⟨_, rfl⟩
          replace h := h x318 ex318
          refine zx_iinc (v := x318) (lv' := [(3, .int x318), (0, .ref b), (1, .ref (g 0)), (2, .ref (g 223))]) C dL_law_1836 3 rfl (by rw [ex318]; rfl) (by decide) rfl ?_
          refine zx_goto C 18 dL_law_1839 (by decide) ?_
          refine zx_lv (lv' := [(0, .ref b), (1, .ref (g 0)), (2, .ref (g 223)), (3, .int x318)]) [1, 2, 3, 0] rfl ?_
          exact ih x318 σ316 h
        | 23, _, q =>
          replace h := h.2.2.2.2.2.2.2.2.2.2.2.2.2.2.2.2.2.2.2.2.2.2.2.1 q
          refine zx_tableIn C 1321 (23 : Int32) q dL_law_33 (by decide) (by decide) rfl (by decide) ?_
          refine zx_aload_n C dL_law_1321 1 rfl ?_
          refine zx_aload_n C dL_law_1322 0 rfl ?_
          refine zx_iload_n C dL_law_1323 3 rfl ?_
          refine zx_iconst (v := (1 : Int32)) C dL_law_1324 (by decide) ?_
          refine zx_iadd C dL_law_1325 ?_
          obtain ⟨bd319, h⟩ := h
          refine zx_sld C hX hbl hbA bd319 dL_law_1326 ?_
          refine zx_aload_n C dL_law_1327 0 rfl ?_
          refine zx_iload_n C dL_law_1328 3 rfl ?_
          refine zx_iconst (v := (2 : Int32)) C dL_law_1329 (by decide) ?_
          refine zx_iadd C dL_law_1330 ?_
          obtain ⟨bd320, h⟩ := h
          refine zx_sld C hX hbl hbA bd320 dL_law_1331 ?_
          refine zx_aload_n C dL_law_1332 0 rfl ?_
          refine zx_iload_n C dL_law_1333 3 rfl ?_
          refine zx_iconst (v := (3 : Int32)) C dL_law_1334 (by decide) ?_
          refine zx_iadd C dL_law_1335 ?_
          obtain ⟨bd321, h⟩ := h
          refine zx_sld C hX hbl hbA bd321 dL_law_1336 ?_
          refine zx_aload_n C dL_law_1337 0 rfl ?_
          refine zx_iload_n C dL_law_1338 3 rfl ?_
          refine zx_iconst (v := (4 : Int32)) C dL_law_1339 (by decide) ?_
          refine zx_iadd C dL_law_1340 ?_
          obtain ⟨bd322, h⟩ := h
          refine zx_sld C hX hbl hbA bd322 dL_law_1341 ?_
          refine zx_aload_n C dL_law_1342 0 rfl ?_
          refine zx_iload_n C dL_law_1343 3 rfl ?_
          refine zx_iconst (v := (5 : Int32)) C dL_law_1344 (by decide) ?_
          refine zx_iadd C dL_law_1345 ?_
          obtain ⟨bd323, h⟩ := h
          refine zx_sld C hX hbl hbA bd323 dL_law_1346 ?_
          refine zx_if_eq C 1354 dL_law_1347 (by decide) (fun q => ?_) (fun q => ?_)
          · replace h := h.1 q
            refine zx_iconst (v := (0 : Int32)) C dL_law_1354 (by decide) ?_
            refine zx_cVi C [.int (xs ((x_3 + (1 : Int32))).toNatClampNeg), .int (xs ((x_3 + (2 : Int32))).toNatClampNeg), .int (xs ((x_3 + (3 : Int32))).toNatClampNeg), .int (xs ((x_3 + (4 : Int32))).toNatClampNeg), .int (0 : Int32)] lk_L_112 (c_X9_rich l D cy g (xs ((x_3 + (1 : Int32))).toNatClampNeg) (xs ((x_3 + (2 : Int32))).toNatClampNeg) (xs ((x_3 + (3 : Int32))).toNatClampNeg) (xs ((x_3 + (4 : Int32))).toNatClampNeg) (0 : Int32)  σ h) zs_0 rfl ⟨by decide, by decide⟩ ⟨rfl, rfl⟩ ⟨by decide, by decide⟩ rfl rfl (Nat.le_of_ble_eq_true rfl) dL_law_1355 (fun r325 σ324 h => ?_)
            refine zx_pop C dL_law_1358 rfl ?_
            refine zx_aload_n C dL_law_1359 2 rfl ?_
            refine zx_aload_n C dL_law_1360 0 rfl ?_
            refine zx_iload_n C dL_law_1361 3 rfl ?_
            refine zx_iconst (v := (1 : Int32)) C dL_law_1362 (by decide) ?_
            refine zx_iadd C dL_law_1363 ?_
            obtain ⟨bd326, h⟩ := h
            refine zx_sld C hX hbl hbA bd326 dL_law_1364 ?_
            refine zx_aload_n C dL_law_1365 0 rfl ?_
            refine zx_iload_n C dL_law_1366 3 rfl ?_
            refine zx_iconst (v := (2 : Int32)) C dL_law_1367 (by decide) ?_
            refine zx_iadd C dL_law_1368 ?_
            obtain ⟨bd327, h⟩ := h
            refine zx_sld C hX hbl hbA bd327 dL_law_1369 ?_
            refine zx_aload_n C dL_law_1370 0 rfl ?_
            refine zx_iload_n C dL_law_1371 3 rfl ?_
            refine zx_iconst (v := (3 : Int32)) C dL_law_1372 (by decide) ?_
            refine zx_iadd C dL_law_1373 ?_
            obtain ⟨bd328, h⟩ := h
            refine zx_sld C hX hbl hbA bd328 dL_law_1374 ?_
            refine zx_aload_n C dL_law_1375 0 rfl ?_
            refine zx_iload_n C dL_law_1376 3 rfl ?_
            refine zx_iconst (v := (4 : Int32)) C dL_law_1377 (by decide) ?_
            refine zx_iadd C dL_law_1378 ?_
            obtain ⟨bd329, h⟩ := h
            refine zx_sld C hX hbl hbA bd329 dL_law_1379 ?_
            refine zx_aload_n C dL_law_1380 0 rfl ?_
            refine zx_iload_n C dL_law_1381 3 rfl ?_
            refine zx_iconst (v := (5 : Int32)) C dL_law_1382 (by decide) ?_
            refine zx_iadd C dL_law_1383 ?_
            obtain ⟨bd330, h⟩ := h
            refine zx_sld C hX hbl hbA bd330 dL_law_1384 ?_
            refine zx_if_eq C 1392 dL_law_1385 (by decide) (fun q => ?_) (fun q => ?_)
            · replace h := h.1 q
              refine zx_iconst (v := (0 : Int32)) C dL_law_1392 (by decide) ?_
              refine zx_cVi C [.int (xs ((x_3 + (1 : Int32))).toNatClampNeg), .int (xs ((x_3 + (2 : Int32))).toNatClampNeg), .int (xs ((x_3 + (3 : Int32))).toNatClampNeg), .int (xs ((x_3 + (4 : Int32))).toNatClampNeg), .int (0 : Int32)] lk_L_116 (c_X10_rich l D cy g (xs ((x_3 + (1 : Int32))).toNatClampNeg) (xs ((x_3 + (2 : Int32))).toNatClampNeg) (xs ((x_3 + (3 : Int32))).toNatClampNeg) (xs ((x_3 + (4 : Int32))).toNatClampNeg) (0 : Int32)  σ324 h) zs_223 rfl ⟨by decide, by decide⟩ ⟨rfl, rfl⟩ ⟨by decide, by decide⟩ rfl rfl (Nat.le_of_ble_eq_true rfl) dL_law_1393 (fun r332 σ331 h => ?_)
              refine zx_pop C dL_law_1396 rfl ?_
              refine zx_goto C 1836 dL_law_1397 (by decide) ?_
              obtain ⟨x333, ex333⟩ : ∃ y : Int32, y = (x_3 + (6 : Int32)) := ⟨_, rfl⟩
              replace h := h x333 ex333
              refine zx_iinc (v := x333) (lv' := [(3, .int x333), (0, .ref b), (1, .ref (g 0)), (2, .ref (g 223))]) C dL_law_1836 3 rfl (by rw [ex333]; rfl) (by decide) rfl ?_
              refine zx_goto C 18 dL_law_1839 (by decide) ?_
              refine zx_lv (lv' := [(0, .ref b), (1, .ref (g 0)), (2, .ref (g 223)), (3, .int x333)]) [1, 2, 3, 0] rfl ?_
              exact ih x333 σ331 h
            · replace h := h.2 q
              refine zx_iconst (v := (1 : Int32)) C dL_law_1388 (by decide) ?_
              refine zx_goto C 1393 dL_law_1389 (by decide) ?_
              refine zx_cVi C [.int (xs ((x_3 + (1 : Int32))).toNatClampNeg), .int (xs ((x_3 + (2 : Int32))).toNatClampNeg), .int (xs ((x_3 + (3 : Int32))).toNatClampNeg), .int (xs ((x_3 + (4 : Int32))).toNatClampNeg), .int (1 : Int32)] lk_L_116 (c_X10_rich l D cy g (xs ((x_3 + (1 : Int32))).toNatClampNeg) (xs ((x_3 + (2 : Int32))).toNatClampNeg) (xs ((x_3 + (3 : Int32))).toNatClampNeg) (xs ((x_3 + (4 : Int32))).toNatClampNeg) (1 : Int32)  σ324 h) zs_223 rfl ⟨by decide, by decide⟩ ⟨rfl, rfl⟩ ⟨by decide, by decide⟩ rfl rfl (Nat.le_of_ble_eq_true rfl) dL_law_1393 (fun r335 σ334 h => ?_)
              refine zx_pop C dL_law_1396 rfl ?_
              refine zx_goto C 1836 dL_law_1397 (by decide) ?_
              obtain ⟨x336, ex336⟩ : ∃ y : Int32, y = (x_3 + (6 : Int32)) := ⟨_, rfl⟩
              replace h := h x336 ex336
              refine zx_iinc (v := x336) (lv' := [(3, .int x336), (0, .ref b), (1, .ref (g 0)), (2, .ref (g 223))]) C dL_law_1836 3 rfl (by rw [ex336]; rfl) (by decide) rfl ?_
              refine zx_goto C 18 dL_law_1839 (by decide) ?_
              refine zx_lv (lv' := [(0, .ref b), (1, .ref (g 0)), (2, .ref (g 223)), (3, .int x336)]) [1, 2, 3, 0] rfl ?_
              exact ih x336 σ334 h
          · replace h := h.2 q
            refine zx_iconst (v := (1 : Int32)) C dL_law_1350 (by decide) ?_
            refine zx_goto C 1355 dL_law_1351 (by decide) ?_
            refine zx_cVi C [.int (xs ((x_3 + (1 : Int32))).toNatClampNeg), .int (xs ((x_3 + (2 : Int32))).toNatClampNeg), .int (xs ((x_3 + (3 : Int32))).toNatClampNeg), .int (xs ((x_3 + (4 : Int32))).toNatClampNeg), .int (1 : Int32)] lk_L_112 (c_X9_rich l D cy g (xs ((x_3 + (1 : Int32))).toNatClampNeg) (xs ((x_3 + (2 : Int32))).toNatClampNeg) (xs ((x_3 + (3 : Int32))).toNatClampNeg) (xs ((x_3 + (4 : Int32))).toNatClampNeg) (1 : Int32)  σ h) zs_0 rfl ⟨by decide, by decide⟩ ⟨rfl, rfl⟩ ⟨by decide, by decide⟩ rfl rfl (Nat.le_of_ble_eq_true rfl) dL_law_1355 (fun r338 σ337 h => ?_)
            refine zx_pop C dL_law_1358 rfl ?_
            refine zx_aload_n C dL_law_1359 2 rfl ?_
            refine zx_aload_n C dL_law_1360 0 rfl ?_
            refine zx_iload_n C dL_law_1361 3 rfl ?_
            refine zx_iconst (v := (1 : Int32)) C dL_law_1362 (by decide) ?_
            refine zx_iadd C dL_law_1363 ?_
            obtain ⟨bd339, h⟩ := h
            refine zx_sld C hX hbl hbA bd339 dL_law_1364 ?_
            refine zx_aload_n C dL_law_1365 0 rfl ?_
            refine zx_iload_n C dL_law_1366 3 rfl ?_
            refine zx_iconst (v := (2 : Int32)) C dL_law_1367 (by decide) ?_
            refine zx_iadd C dL_law_1368 ?_
            obtain ⟨bd340, h⟩ := h
            refine zx_sld C hX hbl hbA bd340 dL_law_1369 ?_
            refine zx_aload_n C dL_law_1370 0 rfl ?_
            refine zx_iload_n C dL_law_1371 3 rfl ?_
            refine zx_iconst (v := (3 : Int32)) C dL_law_1372 (by decide) ?_
            refine zx_iadd C dL_law_1373 ?_
            obtain ⟨bd341, h⟩ := h
            refine zx_sld C hX hbl hbA bd341 dL_law_1374 ?_
            refine zx_aload_n C dL_law_1375 0 rfl ?_
            refine zx_iload_n C dL_law_1376 3 rfl ?_
            refine zx_iconst (v := (4 : Int32)) C dL_law_1377 (by decide) ?_
            refine zx_iadd C dL_law_1378 ?_
            obtain ⟨bd342, h⟩ := h
            refine zx_sld C hX hbl hbA bd342 dL_law_1379 ?_
            refine zx_aload_n C dL_law_1380 0 rfl ?_
            refine zx_iload_n C dL_law_1381 3 rfl ?_
            refine zx_iconst (v := (5 : Int32)) C dL_law_1382 (by decide) ?_
            refine zx_iadd C dL_law_1383 ?_
            obtain ⟨bd343, h⟩ := h
            refine zx_sld C hX hbl hbA bd343 dL_law_1384 ?_
            refine zx_if_eq C 1392 dL_law_1385 (by decide) (fun q => ?_) (fun q => ?_)
            · replace h := h.1 q
              refine zx_iconst (v := (0 : Int32)) C dL_law_1392 (by decide) ?_
              refine zx_cVi C [.int (xs ((x_3 + (1 : Int32))).toNatClampNeg), .int (xs ((x_3 + (2 : Int32))).toNatClampNeg), .int (xs ((x_3 + (3 : Int32))).toNatClampNeg), .int (xs ((x_3 + (4 : Int32))).toNatClampNeg), .int (0 : Int32)] lk_L_116 (c_X10_rich l D cy g (xs ((x_3 + (1 : Int32))).toNatClampNeg) (xs ((x_3 + (2 : Int32))).toNatClampNeg) (xs ((x_3 + (3 : Int32))).toNatClampNeg) (xs ((x_3 + (4 : Int32))).toNatClampNeg) (0 : Int32)  σ337 h) zs_223 rfl ⟨by decide, by decide⟩ ⟨rfl, rfl⟩ ⟨by decide, by decide⟩ rfl rfl (Nat.le_of_ble_eq_true rfl) dL_law_1393 (fun r345 σ344 h => ?_)
              refine zx_pop C dL_law_1396 rfl ?_
              refine zx_goto C 1836 dL_law_1397 (by decide) ?_
              obtain ⟨x346, ex346⟩ : ∃ y : Int32, y = (x_3 + (6 : Int32)) := ⟨_, rfl⟩
              replace h := h x346 ex346
              refine zx_iinc (v := x346) (lv' := [(3, .int x346), (0, .ref b), (1, .ref (g 0)), (2, .ref (g 223))]) C dL_law_1836 3 rfl (by rw [ex346]; rfl) (by decide) rfl ?_
              refine zx_goto C 18 dL_law_1839 (by decide) ?_
              refine zx_lv (lv' := [(0, .ref b), (1, .ref (g 0)), (2, .ref (g 223)), (3, .int x346)]) [1, 2, 3, 0] rfl ?_
              exact ih x346 σ344 h
            · replace h := h.2 q
              refine zx_iconst (v := (1 : Int32)) C dL_law_1388 (by decide) ?_
              refine zx_goto C 1393 dL_law_1389 (by decide) ?_
              refine zx_cVi C [.int (xs ((x_3 + (1 : Int32))).toNatClampNeg), .int (xs ((x_3 + (2 : Int32))).toNatClampNeg), .int (xs ((x_3 + (3 : Int32))).toNatClampNeg), .int (xs ((x_3 + (4 : Int32))).toNatClampNeg), .int (1 : Int32)] lk_L_116 (c_X10_rich l D cy g (xs ((x_3 + (1 : Int32))).toNatClampNeg) (xs ((x_3 + (2 : Int32))).toNatClampNeg) (xs ((x_3 + (3 : Int32))).toNatClampNeg) (xs ((x_3 + (4 : Int32))).toNatClampNeg) (1 : Int32)  σ337 h) zs_223 rfl ⟨by decide, by decide⟩ ⟨rfl, rfl⟩ ⟨by decide, by decide⟩ rfl rfl (Nat.le_of_ble_eq_true rfl) dL_law_1393 (fun r348 σ347 h => ?_)
              refine zx_pop C dL_law_1396 rfl ?_
              refine zx_goto C 1836 dL_law_1397 (by decide) ?_
              obtain ⟨x349, ex349⟩ : ∃ y : Int32, y = (x_3 + (6 : Int32)) := ⟨_, rfl⟩
              replace h := h x349 ex349
              refine zx_iinc (v := x349) (lv' := [(3, .int x349), (0, .ref b), (1, .ref (g 0)), (2, .ref (g 223))]) C dL_law_1836 3 rfl (by rw [ex349]; rfl) (by decide) rfl ?_
              refine zx_goto C 18 dL_law_1839 (by decide) ?_
              refine zx_lv (lv' := [(0, .ref b), (1, .ref (g 0)), (2, .ref (g 223)), (3, .int x349)]) [1, 2, 3, 0] rfl ?_
              exact ih x349 σ347 h
        | 24, _, q =>
          replace h := h.2.2.2.2.2.2.2.2.2.2.2.2.2.2.2.2.2.2.2.2.2.2.2.2.1 q
          refine zx_tableIn C 1400 (24 : Int32) q dL_law_33 (by decide) (by decide) rfl (by decide) ?_
          refine zx_aload_n C dL_law_1400 1 rfl ?_
          refine zx_aload_n C dL_law_1401 0 rfl ?_
          refine zx_iload_n C dL_law_1402 3 rfl ?_
          refine zx_iconst (v := (1 : Int32)) C dL_law_1403 (by decide) ?_
          refine zx_iadd C dL_law_1404 ?_
          obtain ⟨bd350, h⟩ := h
          refine zx_sld C hX hbl hbA bd350 dL_law_1405 ?_
          refine zx_aload_n C dL_law_1406 0 rfl ?_
          refine zx_iload_n C dL_law_1407 3 rfl ?_
          refine zx_iconst (v := (2 : Int32)) C dL_law_1408 (by decide) ?_
          refine zx_iadd C dL_law_1409 ?_
          obtain ⟨bd351, h⟩ := h
          refine zx_sld C hX hbl hbA bd351 dL_law_1410 ?_
          refine zx_aload_n C dL_law_1411 0 rfl ?_
          refine zx_iload_n C dL_law_1412 3 rfl ?_
          refine zx_iconst (v := (3 : Int32)) C dL_law_1413 (by decide) ?_
          refine zx_iadd C dL_law_1414 ?_
          obtain ⟨bd352, h⟩ := h
          refine zx_sld C hX hbl hbA bd352 dL_law_1415 ?_
          refine zx_aload_n C dL_law_1416 0 rfl ?_
          refine zx_iload_n C dL_law_1417 3 rfl ?_
          refine zx_iconst (v := (4 : Int32)) C dL_law_1418 (by decide) ?_
          refine zx_iadd C dL_law_1419 ?_
          obtain ⟨bd353, h⟩ := h
          refine zx_sld C hX hbl hbA bd353 dL_law_1420 ?_
          refine zx_aload_n C dL_law_1421 0 rfl ?_
          refine zx_iload_n C dL_law_1422 3 rfl ?_
          refine zx_iconst (v := (5 : Int32)) C dL_law_1423 (by decide) ?_
          refine zx_iadd C dL_law_1424 ?_
          obtain ⟨bd354, h⟩ := h
          refine zx_sld C hX hbl hbA bd354 dL_law_1425 ?_
          refine zx_cVi C [.int (xs ((x_3 + (1 : Int32))).toNatClampNeg), .int (xs ((x_3 + (2 : Int32))).toNatClampNeg), .int (xs ((x_3 + (3 : Int32))).toNatClampNeg), .int (xs ((x_3 + (4 : Int32))).toNatClampNeg), .int (xs ((x_3 + (5 : Int32))).toNatClampNeg)] lk_L_117 (c_X9_lots l D cy g (xs ((x_3 + (1 : Int32))).toNatClampNeg) (xs ((x_3 + (2 : Int32))).toNatClampNeg) (xs ((x_3 + (3 : Int32))).toNatClampNeg) (xs ((x_3 + (4 : Int32))).toNatClampNeg) (xs ((x_3 + (5 : Int32))).toNatClampNeg)  σ h) zs_0 rfl ⟨by decide, by decide⟩ ⟨rfl, rfl⟩ ⟨by decide, by decide⟩ rfl rfl (Nat.le_of_ble_eq_true rfl) dL_law_1426 (fun r356 σ355 h => ?_)
          refine zx_pop C dL_law_1429 rfl ?_
          refine zx_aload_n C dL_law_1430 2 rfl ?_
          refine zx_aload_n C dL_law_1431 0 rfl ?_
          refine zx_iload_n C dL_law_1432 3 rfl ?_
          refine zx_iconst (v := (1 : Int32)) C dL_law_1433 (by decide) ?_
          refine zx_iadd C dL_law_1434 ?_
          obtain ⟨bd357, h⟩ := h
          refine zx_sld C hX hbl hbA bd357 dL_law_1435 ?_
          refine zx_aload_n C dL_law_1436 0 rfl ?_
          refine zx_iload_n C dL_law_1437 3 rfl ?_
          refine zx_iconst (v := (2 : Int32)) C dL_law_1438 (by decide) ?_
          refine zx_iadd C dL_law_1439 ?_
          obtain ⟨bd358, h⟩ := h
          refine zx_sld C hX hbl hbA bd358 dL_law_1440 ?_
          refine zx_aload_n C dL_law_1441 0 rfl ?_
          refine zx_iload_n C dL_law_1442 3 rfl ?_
          refine zx_iconst (v := (3 : Int32)) C dL_law_1443 (by decide) ?_
          refine zx_iadd C dL_law_1444 ?_
          obtain ⟨bd359, h⟩ := h
          refine zx_sld C hX hbl hbA bd359 dL_law_1445 ?_
          refine zx_aload_n C dL_law_1446 0 rfl ?_
          refine zx_iload_n C dL_law_1447 3 rfl ?_
          refine zx_iconst (v := (4 : Int32)) C dL_law_1448 (by decide) ?_
          refine zx_iadd C dL_law_1449 ?_
          obtain ⟨bd360, h⟩ := h
          refine zx_sld C hX hbl hbA bd360 dL_law_1450 ?_
          refine zx_aload_n C dL_law_1451 0 rfl ?_
          refine zx_iload_n C dL_law_1452 3 rfl ?_
          refine zx_iconst (v := (5 : Int32)) C dL_law_1453 (by decide) ?_
          refine zx_iadd C dL_law_1454 ?_
          obtain ⟨bd361, h⟩ := h
          refine zx_sld C hX hbl hbA bd361 dL_law_1455 ?_
          refine zx_cVi C [.int (xs ((x_3 + (1 : Int32))).toNatClampNeg), .int (xs ((x_3 + (2 : Int32))).toNatClampNeg), .int (xs ((x_3 + (3 : Int32))).toNatClampNeg), .int (xs ((x_3 + (4 : Int32))).toNatClampNeg), .int (xs ((x_3 + (5 : Int32))).toNatClampNeg)] lk_L_120 (c_X10_lots l D cy g (xs ((x_3 + (1 : Int32))).toNatClampNeg) (xs ((x_3 + (2 : Int32))).toNatClampNeg) (xs ((x_3 + (3 : Int32))).toNatClampNeg) (xs ((x_3 + (4 : Int32))).toNatClampNeg) (xs ((x_3 + (5 : Int32))).toNatClampNeg)  σ355 h) zs_223 rfl ⟨by decide, by decide⟩ ⟨rfl, rfl⟩ ⟨by decide, by decide⟩ rfl rfl (Nat.le_of_ble_eq_true rfl) dL_law_1456 (fun r363 σ362 h => ?_)
          refine zx_pop C dL_law_1459 rfl ?_
          refine zx_goto C 1836 dL_law_1460 (by decide) ?_
          obtain ⟨x364, ex364⟩ : ∃ y : Int32, y = (x_3 + (6 : Int32)) := ⟨_, rfl⟩
          replace h := h x364 ex364
          refine zx_iinc (v := x364) (lv' := [(3, .int x364), (0, .ref b), (1, .ref (g 0)), (2, .ref (g 223))]) C dL_law_1836 3 rfl (by rw [ex364]; rfl) (by decide) rfl ?_
          refine zx_goto C 18 dL_law_1839 (by decide) ?_
          refine zx_lv (lv' := [(0, .ref b), (1, .ref (g 0)), (2, .ref (g 223)), (3, .int x364)]) [1, 2, 3, 0] rfl ?_
          exact ih x364 σ362 h
        | 25, _, q =>
          replace h := h.2.2.2.2.2.2.2.2.2.2.2.2.2.2.2.2.2.2.2.2.2.2.2.2.2.1 q
          refine zx_tableIn C 1463 (25 : Int32) q dL_law_33 (by decide) (by decide) rfl (by decide) ?_
          refine zx_aload_n C dL_law_1463 1 rfl ?_
          refine zx_aload_n C dL_law_1464 0 rfl ?_
          refine zx_iload_n C dL_law_1465 3 rfl ?_
          refine zx_iconst (v := (1 : Int32)) C dL_law_1466 (by decide) ?_
          refine zx_iadd C dL_law_1467 ?_
          obtain ⟨bd365, h⟩ := h
          refine zx_sld C hX hbl hbA bd365 dL_law_1468 ?_
          refine zx_aload_n C dL_law_1469 0 rfl ?_
          refine zx_iload_n C dL_law_1470 3 rfl ?_
          refine zx_iconst (v := (2 : Int32)) C dL_law_1471 (by decide) ?_
          refine zx_iadd C dL_law_1472 ?_
          obtain ⟨bd366, h⟩ := h
          refine zx_sld C hX hbl hbA bd366 dL_law_1473 ?_
          refine zx_aload_n C dL_law_1474 0 rfl ?_
          refine zx_iload_n C dL_law_1475 3 rfl ?_
          refine zx_iconst (v := (3 : Int32)) C dL_law_1476 (by decide) ?_
          refine zx_iadd C dL_law_1477 ?_
          obtain ⟨bd367, h⟩ := h
          refine zx_sld C hX hbl hbA bd367 dL_law_1478 ?_
          refine zx_cVi C [.int (xs ((x_3 + (1 : Int32))).toNatClampNeg), .int (xs ((x_3 + (2 : Int32))).toNatClampNeg), .int (xs ((x_3 + (3 : Int32))).toNatClampNeg)] lk_L_121 (c_X9_seen l D cy g (xs ((x_3 + (1 : Int32))).toNatClampNeg) (xs ((x_3 + (2 : Int32))).toNatClampNeg) (xs ((x_3 + (3 : Int32))).toNatClampNeg)  σ h) zs_0 rfl ⟨by decide, by decide⟩ ⟨rfl, rfl⟩ ⟨by decide, by decide⟩ rfl rfl (Nat.le_of_ble_eq_true rfl) dL_law_1479 (fun r369 σ368 h => ?_)
          refine zx_pop C dL_law_1482 rfl ?_
          refine zx_aload_n C dL_law_1483 2 rfl ?_
          refine zx_aload_n C dL_law_1484 0 rfl ?_
          refine zx_iload_n C dL_law_1485 3 rfl ?_
          refine zx_iconst (v := (1 : Int32)) C dL_law_1486 (by decide) ?_
          refine zx_iadd C dL_law_1487 ?_
          obtain ⟨bd370, h⟩ := h
          refine zx_sld C hX hbl hbA bd370 dL_law_1488 ?_
          refine zx_aload_n C dL_law_1489 0 rfl ?_
          refine zx_iload_n C dL_law_1490 3 rfl ?_
          refine zx_iconst (v := (2 : Int32)) C dL_law_1491 (by decide) ?_
          refine zx_iadd C dL_law_1492 ?_
          obtain ⟨bd371, h⟩ := h
          refine zx_sld C hX hbl hbA bd371 dL_law_1493 ?_
          refine zx_aload_n C dL_law_1494 0 rfl ?_
          refine zx_iload_n C dL_law_1495 3 rfl ?_
          refine zx_iconst (v := (3 : Int32)) C dL_law_1496 (by decide) ?_
          refine zx_iadd C dL_law_1497 ?_
          obtain ⟨bd372, h⟩ := h
          refine zx_sld C hX hbl hbA bd372 dL_law_1498 ?_
          refine zx_cVi C [.int (xs ((x_3 + (1 : Int32))).toNatClampNeg), .int (xs ((x_3 + (2 : Int32))).toNatClampNeg), .int (xs ((x_3 + (3 : Int32))).toNatClampNeg)] lk_L_124 (c_X10_seen l D cy g (xs ((x_3 + (1 : Int32))).toNatClampNeg) (xs ((x_3 + (2 : Int32))).toNatClampNeg) (xs ((x_3 + (3 : Int32))).toNatClampNeg)  σ368 h) zs_223 rfl ⟨by decide, by decide⟩ ⟨rfl, rfl⟩ ⟨by decide, by decide⟩ rfl rfl (Nat.le_of_ble_eq_true rfl) dL_law_1499 (fun r374 σ373 h => ?_)
          refine zx_pop C dL_law_1502 rfl ?_
          refine zx_goto C 1836 dL_law_1503 (by decide) ?_
          obtain ⟨x375, ex375⟩ : ∃ y : Int32, y = (x_3 + (6 : Int32)) := ⟨_, rfl⟩
          replace h := h x375 ex375
          refine zx_iinc (v := x375) (lv' := [(3, .int x375), (0, .ref b), (1, .ref (g 0)), (2, .ref (g 223))]) C dL_law_1836 3 rfl (by rw [ex375]; rfl) (by decide) rfl ?_
          refine zx_goto C 18 dL_law_1839 (by decide) ?_
          refine zx_lv (lv' := [(0, .ref b), (1, .ref (g 0)), (2, .ref (g 223)), (3, .int x375)]) [1, 2, 3, 0] rfl ?_
          exact ih x375 σ373 h
        | 26, _, q =>
          replace h := h.2.2.2.2.2.2.2.2.2.2.2.2.2.2.2.2.2.2.2.2.2.2.2.2.2.2.1 q
          refine zx_tableIn C 1506 (26 : Int32) q dL_law_33 (by decide) (by decide) rfl (by decide) ?_
          refine zx_aload_n C dL_law_1506 1 rfl ?_
          refine zx_aload_n C dL_law_1507 0 rfl ?_
          refine zx_iload_n C dL_law_1508 3 rfl ?_
          refine zx_iconst (v := (1 : Int32)) C dL_law_1509 (by decide) ?_
          refine zx_iadd C dL_law_1510 ?_
          obtain ⟨bd376, h⟩ := h
          refine zx_sld C hX hbl hbA bd376 dL_law_1511 ?_
          refine zx_aload_n C dL_law_1512 0 rfl ?_
          refine zx_iload_n C dL_law_1513 3 rfl ?_
          refine zx_iconst (v := (2 : Int32)) C dL_law_1514 (by decide) ?_
          refine zx_iadd C dL_law_1515 ?_
          obtain ⟨bd377, h⟩ := h
          refine zx_sld C hX hbl hbA bd377 dL_law_1516 ?_
          refine zx_aload_n C dL_law_1517 0 rfl ?_
          refine zx_iload_n C dL_law_1518 3 rfl ?_
          refine zx_iconst (v := (3 : Int32)) C dL_law_1519 (by decide) ?_
          refine zx_iadd C dL_law_1520 ?_
          obtain ⟨bd378, h⟩ := h
          refine zx_sld C hX hbl hbA bd378 dL_law_1521 ?_
          refine zx_cVi C [.int (xs ((x_3 + (1 : Int32))).toNatClampNeg), .int (xs ((x_3 + (2 : Int32))).toNatClampNeg), .int (xs ((x_3 + (3 : Int32))).toNatClampNeg)] lk_L_125 (c_X9_hold l D cy g (xs ((x_3 + (1 : Int32))).toNatClampNeg) (xs ((x_3 + (2 : Int32))).toNatClampNeg) (xs ((x_3 + (3 : Int32))).toNatClampNeg)  σ h) zs_0 rfl ⟨by decide, by decide⟩ ⟨rfl, rfl⟩ ⟨by decide, by decide⟩ rfl rfl (Nat.le_of_ble_eq_true rfl) dL_law_1522 (fun r380 σ379 h => ?_)
          refine zx_aload_n C dL_law_1525 2 rfl ?_
          refine zx_aload_n C dL_law_1526 0 rfl ?_
          refine zx_iload_n C dL_law_1527 3 rfl ?_
          refine zx_iconst (v := (1 : Int32)) C dL_law_1528 (by decide) ?_
          refine zx_iadd C dL_law_1529 ?_
          obtain ⟨bd381, h⟩ := h
          refine zx_sld C hX hbl hbA bd381 dL_law_1530 ?_
          refine zx_aload_n C dL_law_1531 0 rfl ?_
          refine zx_iload_n C dL_law_1532 3 rfl ?_
          refine zx_iconst (v := (2 : Int32)) C dL_law_1533 (by decide) ?_
          refine zx_iadd C dL_law_1534 ?_
          obtain ⟨bd382, h⟩ := h
          refine zx_sld C hX hbl hbA bd382 dL_law_1535 ?_
          refine zx_aload_n C dL_law_1536 0 rfl ?_
          refine zx_iload_n C dL_law_1537 3 rfl ?_
          refine zx_iconst (v := (3 : Int32)) C dL_law_1538 (by decide) ?_
          refine zx_iadd C dL_law_1539 ?_
          obtain ⟨bd383, h⟩ := h
          refine zx_sld C hX hbl hbA bd383 dL_law_1540 ?_
          refine zx_cVi C [.int (xs ((x_3 + (1 : Int32))).toNatClampNeg), .int (xs ((x_3 + (2 : Int32))).toNatClampNeg), .int (xs ((x_3 + (3 : Int32))).toNatClampNeg)] lk_L_128 (c_X10_hold l D cy g (xs ((x_3 + (1 : Int32))).toNatClampNeg) (xs ((x_3 + (2 : Int32))).toNatClampNeg) (xs ((x_3 + (3 : Int32))).toNatClampNeg)  σ379 h) zs_223 rfl ⟨by decide, by decide⟩ ⟨rfl, rfl⟩ ⟨by decide, by decide⟩ rfl rfl (Nat.le_of_ble_eq_true rfl) dL_law_1541 (fun r385 σ384 h => ?_)
          refine zx_icmp_eq C 1836 dL_law_1544 (by decide) (fun q => ?_) (fun q => ?_)
          · replace h := h.1 q
            obtain ⟨x386, ex386⟩ : ∃ y : Int32, y = (x_3 + (6 : Int32)) := ⟨_, rfl⟩
            replace h := h x386 ex386
            refine zx_iinc (v := x386) (lv' := [(3, .int x386), (0, .ref b), (1, .ref (g 0)), (2, .ref (g 223))]) C dL_law_1836 3 rfl (by rw [ex386]; rfl) (by decide) rfl ?_
            refine zx_goto C 18 dL_law_1839 (by decide) ?_
            refine zx_lv (lv' := [(0, .ref b), (1, .ref (g 0)), (2, .ref (g 223)), (3, .int x386)]) [1, 2, 3, 0] rfl ?_
            exact ih x386 σ384 h
          · replace h := h.2 q
            exact h.elim
        | 27, _, q =>
          replace h := h.2.2.2.2.2.2.2.2.2.2.2.2.2.2.2.2.2.2.2.2.2.2.2.2.2.2.2.1 q
          refine zx_tableIn C 1549 (27 : Int32) q dL_law_33 (by decide) (by decide) rfl (by decide) ?_
          refine zx_aload_n C dL_law_1549 1 rfl ?_
          refine zx_aload_n C dL_law_1550 0 rfl ?_
          refine zx_iload_n C dL_law_1551 3 rfl ?_
          refine zx_iconst (v := (1 : Int32)) C dL_law_1552 (by decide) ?_
          refine zx_iadd C dL_law_1553 ?_
          obtain ⟨bd387, h⟩ := h
          refine zx_sld C hX hbl hbA bd387 dL_law_1554 ?_
          refine zx_aload_n C dL_law_1555 0 rfl ?_
          refine zx_iload_n C dL_law_1556 3 rfl ?_
          refine zx_iconst (v := (2 : Int32)) C dL_law_1557 (by decide) ?_
          refine zx_iadd C dL_law_1558 ?_
          obtain ⟨bd388, h⟩ := h
          refine zx_sld C hX hbl hbA bd388 dL_law_1559 ?_
          refine zx_cVi C [.int (xs ((x_3 + (1 : Int32))).toNatClampNeg), .int (xs ((x_3 + (2 : Int32))).toNatClampNeg)] lk_L_129 (c_X9_risk l D cy g (xs ((x_3 + (1 : Int32))).toNatClampNeg) (xs ((x_3 + (2 : Int32))).toNatClampNeg)  σ h) zs_0 rfl ⟨by decide, by decide⟩ ⟨rfl, rfl⟩ ⟨by decide, by decide⟩ rfl rfl (Nat.le_of_ble_eq_true rfl) dL_law_1560 (fun r390 σ389 h => ?_)
          refine zx_pop C dL_law_1563 rfl ?_
          refine zx_aload_n C dL_law_1564 2 rfl ?_
          refine zx_aload_n C dL_law_1565 0 rfl ?_
          refine zx_iload_n C dL_law_1566 3 rfl ?_
          refine zx_iconst (v := (1 : Int32)) C dL_law_1567 (by decide) ?_
          refine zx_iadd C dL_law_1568 ?_
          obtain ⟨bd391, h⟩ := h
          refine zx_sld C hX hbl hbA bd391 dL_law_1569 ?_
          refine zx_aload_n C dL_law_1570 0 rfl ?_
          refine zx_iload_n C dL_law_1571 3 rfl ?_
          refine zx_iconst (v := (2 : Int32)) C dL_law_1572 (by decide) ?_
          refine zx_iadd C dL_law_1573 ?_
          obtain ⟨bd392, h⟩ := h
          refine zx_sld C hX hbl hbA bd392 dL_law_1574 ?_
          refine zx_cVi C [.int (xs ((x_3 + (1 : Int32))).toNatClampNeg), .int (xs ((x_3 + (2 : Int32))).toNatClampNeg)] lk_L_132 (c_X10_risk l D cy g (xs ((x_3 + (1 : Int32))).toNatClampNeg) (xs ((x_3 + (2 : Int32))).toNatClampNeg)  σ389 h) zs_223 rfl ⟨by decide, by decide⟩ ⟨rfl, rfl⟩ ⟨by decide, by decide⟩ rfl rfl (Nat.le_of_ble_eq_true rfl) dL_law_1575 (fun r394 σ393 h => ?_)
          refine zx_pop C dL_law_1578 rfl ?_
          refine zx_goto C 1836 dL_law_1579 (by decide) ?_
          obtain ⟨x395, ex395⟩ : ∃ y : Int32, y = (x_3 + (6 : Int32)) := ⟨_, rfl⟩
          replace h := h x395 ex395
          refine zx_iinc (v := x395) (lv' := [(3, .int x395), (0, .ref b), (1, .ref (g 0)), (2, .ref (g 223))]) C dL_law_1836 3 rfl (by rw [ex395]; rfl) (by decide) rfl ?_
          refine zx_goto C 18 dL_law_1839 (by decide) ?_
          refine zx_lv (lv' := [(0, .ref b), (1, .ref (g 0)), (2, .ref (g 223)), (3, .int x395)]) [1, 2, 3, 0] rfl ?_
          exact ih x395 σ393 h
        | 28, _, q =>
          replace h := h.2.2.2.2.2.2.2.2.2.2.2.2.2.2.2.2.2.2.2.2.2.2.2.2.2.2.2.2.1 q
          refine zx_tableIn C 1582 (28 : Int32) q dL_law_33 (by decide) (by decide) rfl (by decide) ?_
          refine zx_aload_n C dL_law_1582 1 rfl ?_
          refine zx_aload_n C dL_law_1583 0 rfl ?_
          refine zx_iload_n C dL_law_1584 3 rfl ?_
          refine zx_iconst (v := (1 : Int32)) C dL_law_1585 (by decide) ?_
          refine zx_iadd C dL_law_1586 ?_
          obtain ⟨bd396, h⟩ := h
          refine zx_sld C hX hbl hbA bd396 dL_law_1587 ?_
          refine zx_aload_n C dL_law_1588 0 rfl ?_
          refine zx_iload_n C dL_law_1589 3 rfl ?_
          refine zx_iconst (v := (2 : Int32)) C dL_law_1590 (by decide) ?_
          refine zx_iadd C dL_law_1591 ?_
          obtain ⟨bd397, h⟩ := h
          refine zx_sld C hX hbl hbA bd397 dL_law_1592 ?_
          refine zx_aload_n C dL_law_1593 0 rfl ?_
          refine zx_iload_n C dL_law_1594 3 rfl ?_
          refine zx_iconst (v := (3 : Int32)) C dL_law_1595 (by decide) ?_
          refine zx_iadd C dL_law_1596 ?_
          obtain ⟨bd398, h⟩ := h
          refine zx_sld C hX hbl hbA bd398 dL_law_1597 ?_
          refine zx_aload_n C dL_law_1598 0 rfl ?_
          refine zx_iload_n C dL_law_1599 3 rfl ?_
          refine zx_iconst (v := (4 : Int32)) C dL_law_1600 (by decide) ?_
          refine zx_iadd C dL_law_1601 ?_
          obtain ⟨bd399, h⟩ := h
          refine zx_sld C hX hbl hbA bd399 dL_law_1602 ?_
          refine zx_if_eq C 1610 dL_law_1603 (by decide) (fun q => ?_) (fun q => ?_)
          · replace h := h.1 q
            refine zx_iconst (v := (0 : Int32)) C dL_law_1610 (by decide) ?_
            refine zx_cVi C [.int (xs ((x_3 + (1 : Int32))).toNatClampNeg), .int (xs ((x_3 + (2 : Int32))).toNatClampNeg), .int (xs ((x_3 + (3 : Int32))).toNatClampNeg), .int (0 : Int32)] lk_L_133 (c_X9_vote l D cy g (xs ((x_3 + (1 : Int32))).toNatClampNeg) (xs ((x_3 + (2 : Int32))).toNatClampNeg) (xs ((x_3 + (3 : Int32))).toNatClampNeg) (0 : Int32)  σ h) zs_0 rfl ⟨by decide, by decide⟩ ⟨rfl, rfl⟩ ⟨by decide, by decide⟩ rfl rfl (Nat.le_of_ble_eq_true rfl) dL_law_1611 (fun r401 σ400 h => ?_)
            refine zx_pop C dL_law_1614 rfl ?_
            refine zx_aload_n C dL_law_1615 2 rfl ?_
            refine zx_aload_n C dL_law_1616 0 rfl ?_
            refine zx_iload_n C dL_law_1617 3 rfl ?_
            refine zx_iconst (v := (1 : Int32)) C dL_law_1618 (by decide) ?_
            refine zx_iadd C dL_law_1619 ?_
            obtain ⟨bd402, h⟩ := h
            refine zx_sld C hX hbl hbA bd402 dL_law_1620 ?_
            refine zx_aload_n C dL_law_1621 0 rfl ?_
            refine zx_iload_n C dL_law_1622 3 rfl ?_
            refine zx_iconst (v := (2 : Int32)) C dL_law_1623 (by decide) ?_
            refine zx_iadd C dL_law_1624 ?_
            obtain ⟨bd403, h⟩ := h
            refine zx_sld C hX hbl hbA bd403 dL_law_1625 ?_
            refine zx_aload_n C dL_law_1626 0 rfl ?_
            refine zx_iload_n C dL_law_1627 3 rfl ?_
            refine zx_iconst (v := (3 : Int32)) C dL_law_1628 (by decide) ?_
            refine zx_iadd C dL_law_1629 ?_
            obtain ⟨bd404, h⟩ := h
            refine zx_sld C hX hbl hbA bd404 dL_law_1630 ?_
            refine zx_aload_n C dL_law_1631 0 rfl ?_
            refine zx_iload_n C dL_law_1632 3 rfl ?_
            refine zx_iconst (v := (4 : Int32)) C dL_law_1633 (by decide) ?_
            refine zx_iadd C dL_law_1634 ?_
            obtain ⟨bd405, h⟩ := h
            refine zx_sld C hX hbl hbA bd405 dL_law_1635 ?_
            refine zx_if_eq C 1643 dL_law_1636 (by decide) (fun q => ?_) (fun q => ?_)
            · replace h := h.1 q
              refine zx_iconst (v := (0 : Int32)) C dL_law_1643 (by decide) ?_
              refine zx_cVi C [.int (xs ((x_3 + (1 : Int32))).toNatClampNeg), .int (xs ((x_3 + (2 : Int32))).toNatClampNeg), .int (xs ((x_3 + (3 : Int32))).toNatClampNeg), .int (0 : Int32)] lk_L_136 (c_X10_vote l D cy g (xs ((x_3 + (1 : Int32))).toNatClampNeg) (xs ((x_3 + (2 : Int32))).toNatClampNeg) (xs ((x_3 + (3 : Int32))).toNatClampNeg) (0 : Int32)  σ400 h) zs_223 rfl ⟨by decide, by decide⟩ ⟨rfl, rfl⟩ ⟨by decide, by decide⟩ rfl rfl (Nat.le_of_ble_eq_true rfl) dL_law_1644 (fun r407 σ406 h => ?_)
              refine zx_pop C dL_law_1647 rfl ?_
              refine zx_goto C 1836 dL_law_1648 (by decide) ?_
              obtain ⟨x408, ex408⟩ : ∃ y : Int32, y = (x_3 + (6 : Int32)) := ⟨_, rfl⟩
              replace h := h x408 ex408
              refine zx_iinc (v := x408) (lv' := [(3, .int x408), (0, .ref b), (1, .ref (g 0)), (2, .ref (g 223))]) C dL_law_1836 3 rfl (by rw [ex408]; rfl) (by decide) rfl ?_
              refine zx_goto C 18 dL_law_1839 (by decide) ?_
              refine zx_lv (lv' := [(0, .ref b), (1, .ref (g 0)), (2, .ref (g 223)), (3, .int x408)]) [1, 2, 3, 0] rfl ?_
              exact ih x408 σ406 h
            · replace h := h.2 q
              refine zx_iconst (v := (1 : Int32)) C dL_law_1639 (by decide) ?_
              refine zx_goto C 1644 dL_law_1640 (by decide) ?_
              refine zx_cVi C [.int (xs ((x_3 + (1 : Int32))).toNatClampNeg), .int (xs ((x_3 + (2 : Int32))).toNatClampNeg), .int (xs ((x_3 + (3 : Int32))).toNatClampNeg), .int (1 : Int32)] lk_L_136 (c_X10_vote l D cy g (xs ((x_3 + (1 : Int32))).toNatClampNeg) (xs ((x_3 + (2 : Int32))).toNatClampNeg) (xs ((x_3 + (3 : Int32))).toNatClampNeg) (1 : Int32)  σ400 h) zs_223 rfl ⟨by decide, by decide⟩ ⟨rfl, rfl⟩ ⟨by decide, by decide⟩ rfl rfl (Nat.le_of_ble_eq_true rfl) dL_law_1644 (fun r410 σ409 h => ?_)
              refine zx_pop C dL_law_1647 rfl ?_
              refine zx_goto C 1836 dL_law_1648 (by decide) ?_
              obtain ⟨x411, ex411⟩ : ∃ y : Int32, y = (x_3 + (6 : Int32)) := ⟨_, rfl⟩
              replace h := h x411 ex411
              refine zx_iinc (v := x411) (lv' := [(3, .int x411), (0, .ref b), (1, .ref (g 0)), (2, .ref (g 223))]) C dL_law_1836 3 rfl (by rw [ex411]; rfl) (by decide) rfl ?_
              refine zx_goto C 18 dL_law_1839 (by decide) ?_
              refine zx_lv (lv' := [(0, .ref b), (1, .ref (g 0)), (2, .ref (g 223)), (3, .int x411)]) [1, 2, 3, 0] rfl ?_
              exact ih x411 σ409 h
          · replace h := h.2 q
            refine zx_iconst (v := (1 : Int32)) C dL_law_1606 (by decide) ?_
            refine zx_goto C 1611 dL_law_1607 (by decide) ?_
            refine zx_cVi C [.int (xs ((x_3 + (1 : Int32))).toNatClampNeg), .int (xs ((x_3 + (2 : Int32))).toNatClampNeg), .int (xs ((x_3 + (3 : Int32))).toNatClampNeg), .int (1 : Int32)] lk_L_133 (c_X9_vote l D cy g (xs ((x_3 + (1 : Int32))).toNatClampNeg) (xs ((x_3 + (2 : Int32))).toNatClampNeg) (xs ((x_3 + (3 : Int32))).toNatClampNeg) (1 : Int32)  σ h) zs_0 rfl ⟨by decide, by decide⟩ ⟨rfl, rfl⟩ ⟨by decide, by decide⟩ rfl rfl (Nat.le_of_ble_eq_true rfl) dL_law_1611 (fun r413 σ412 h => ?_)
            refine zx_pop C dL_law_1614 rfl ?_
            refine zx_aload_n C dL_law_1615 2 rfl ?_
            refine zx_aload_n C dL_law_1616 0 rfl ?_
            refine zx_iload_n C dL_law_1617 3 rfl ?_
            refine zx_iconst (v := (1 : Int32)) C dL_law_1618 (by decide) ?_
            refine zx_iadd C dL_law_1619 ?_
            obtain ⟨bd414, h⟩ := h
            refine zx_sld C hX hbl hbA bd414 dL_law_1620 ?_
            refine zx_aload_n C dL_law_1621 0 rfl ?_
            refine zx_iload_n C dL_law_1622 3 rfl ?_
            refine zx_iconst (v := (2 : Int32)) C dL_law_1623 (by decide) ?_
            refine zx_iadd C dL_law_1624 ?_
            obtain ⟨bd415, h⟩ := h
            refine zx_sld C hX hbl hbA bd415 dL_law_1625 ?_
            refine zx_aload_n C dL_law_1626 0 rfl ?_
            refine zx_iload_n C dL_law_1627 3 rfl ?_
            refine zx_iconst (v := (3 : Int32)) C dL_law_1628 (by decide) ?_
            refine zx_iadd C dL_law_1629 ?_
            obtain ⟨bd416, h⟩ := h
            refine zx_sld C hX hbl hbA bd416 dL_law_1630 ?_
            refine zx_aload_n C dL_law_1631 0 rfl ?_
            refine zx_iload_n C dL_law_1632 3 rfl ?_
            refine zx_iconst (v := (4 : Int32)) C dL_law_1633 (by decide) ?_
            refine zx_iadd C dL_law_1634 ?_
            obtain ⟨bd417, h⟩ := h
            refine zx_sld C hX hbl hbA bd417 dL_law_1635 ?_
            refine zx_if_eq C 1643 dL_law_1636 (by decide) (fun q => ?_) (fun q => ?_)
            · replace h := h.1 q
              refine zx_iconst (v := (0 : Int32)) C dL_law_1643 (by decide) ?_
              refine zx_cVi C [.int (xs ((x_3 + (1 : Int32))).toNatClampNeg), .int (xs ((x_3 + (2 : Int32))).toNatClampNeg), .int (xs ((x_3 + (3 : Int32))).toNatClampNeg), .int (0 : Int32)] lk_L_136 (c_X10_vote l D cy g (xs ((x_3 + (1 : Int32))).toNatClampNeg) (xs ((x_3 + (2 : Int32))).toNatClampNeg) (xs ((x_3 + (3 : Int32))).toNatClampNeg) (0 : Int32)  σ412 h) zs_223 rfl ⟨by decide, by decide⟩ ⟨rfl, rfl⟩ ⟨by decide, by decide⟩ rfl rfl (Nat.le_of_ble_eq_true rfl) dL_law_1644 (fun r419 σ418 h => ?_)
              refine zx_pop C dL_law_1647 rfl ?_
              refine zx_goto C 1836 dL_law_1648 (by decide) ?_
              obtain ⟨x420, ex420⟩ : ∃ y : Int32, y = (x_3 + (6 : Int32)) := ⟨_, rfl⟩
              replace h := h x420 ex420
              refine zx_iinc (v := x420) (lv' := [(3, .int x420), (0, .ref b), (1, .ref (g 0)), (2, .ref (g 223))]) C dL_law_1836 3 rfl (by rw [ex420]; rfl) (by decide) rfl ?_
              refine zx_goto C 18 dL_law_1839 (by decide) ?_
              refine zx_lv (lv' := [(0, .ref b), (1, .ref (g 0)), (2, .ref (g 223)), (3, .int x420)]) [1, 2, 3, 0] rfl ?_
              exact ih x420 σ418 h
            · replace h := h.2 q
              refine zx_iconst (v := (1 : Int32)) C dL_law_1639 (by decide) ?_
              refine zx_goto C 1644 dL_law_1640 (by decide) ?_
              refine zx_cVi C [.int (xs ((x_3 + (1 : Int32))).toNatClampNeg), .int (xs ((x_3 + (2 : Int32))).toNatClampNeg), .int (xs ((x_3 + (3 : Int32))).toNatClampNeg), .int (1 : Int32)] lk_L_136 (c_X10_vote l D cy g (xs ((x_3 + (1 : Int32))).toNatClampNeg) (xs ((x_3 + (2 : Int32))).toNatClampNeg) (xs ((x_3 + (3 : Int32))).toNatClampNeg) (1 : Int32)  σ412 h) zs_223 rfl ⟨by decide, by decide⟩ ⟨rfl, rfl⟩ ⟨by decide, by decide⟩ rfl rfl (Nat.le_of_ble_eq_true rfl) dL_law_1644 (fun r422 σ421 h => ?_)
              refine zx_pop C dL_law_1647 rfl ?_
              refine zx_goto C 1836 dL_law_1648 (by decide) ?_
              obtain ⟨x423, ex423⟩ : ∃ y : Int32, y = (x_3 + (6 : Int32)) := ⟨_, rfl⟩
              replace h := h x423 ex423
              refine zx_iinc (v := x423) (lv' := [(3, .int x423), (0, .ref b), (1, .ref (g 0)), (2, .ref (g 223))]) C dL_law_1836 3 rfl (by rw [ex423]; rfl) (by decide) rfl ?_
              refine zx_goto C 18 dL_law_1839 (by decide) ?_
              refine zx_lv (lv' := [(0, .ref b), (1, .ref (g 0)), (2, .ref (g 223)), (3, .int x423)]) [1, 2, 3, 0] rfl ?_
              exact ih x423 σ421 h
        | 29, _, q =>
          replace h := h.2.2.2.2.2.2.2.2.2.2.2.2.2.2.2.2.2.2.2.2.2.2.2.2.2.2.2.2.2.1 q
          refine zx_tableIn C 1651 (29 : Int32) q dL_law_33 (by decide) (by decide) rfl (by decide) ?_
          refine zx_aload_n C dL_law_1651 1 rfl ?_
          refine zx_aload_n C dL_law_1652 0 rfl ?_
          refine zx_iload_n C dL_law_1653 3 rfl ?_
          refine zx_iconst (v := (1 : Int32)) C dL_law_1654 (by decide) ?_
          refine zx_iadd C dL_law_1655 ?_
          obtain ⟨bd424, h⟩ := h
          refine zx_sld C hX hbl hbA bd424 dL_law_1656 ?_
          refine zx_aload_n C dL_law_1657 0 rfl ?_
          refine zx_iload_n C dL_law_1658 3 rfl ?_
          refine zx_iconst (v := (2 : Int32)) C dL_law_1659 (by decide) ?_
          refine zx_iadd C dL_law_1660 ?_
          obtain ⟨bd425, h⟩ := h
          refine zx_sld C hX hbl hbA bd425 dL_law_1661 ?_
          refine zx_aload_n C dL_law_1662 0 rfl ?_
          refine zx_iload_n C dL_law_1663 3 rfl ?_
          refine zx_iconst (v := (3 : Int32)) C dL_law_1664 (by decide) ?_
          refine zx_iadd C dL_law_1665 ?_
          obtain ⟨bd426, h⟩ := h
          refine zx_sld C hX hbl hbA bd426 dL_law_1666 ?_
          refine zx_aload_n C dL_law_1667 0 rfl ?_
          refine zx_iload_n C dL_law_1668 3 rfl ?_
          refine zx_iconst (v := (4 : Int32)) C dL_law_1669 (by decide) ?_
          refine zx_iadd C dL_law_1670 ?_
          obtain ⟨bd427, h⟩ := h
          refine zx_sld C hX hbl hbA bd427 dL_law_1671 ?_
          refine zx_aload_n C dL_law_1672 0 rfl ?_
          refine zx_iload_n C dL_law_1673 3 rfl ?_
          refine zx_iconst (v := (5 : Int32)) C dL_law_1674 (by decide) ?_
          refine zx_iadd C dL_law_1675 ?_
          obtain ⟨bd428, h⟩ := h
          refine zx_sld C hX hbl hbA bd428 dL_law_1676 ?_
          refine zx_cVi C [.int (xs ((x_3 + (1 : Int32))).toNatClampNeg), .int (xs ((x_3 + (2 : Int32))).toNatClampNeg), .int (xs ((x_3 + (3 : Int32))).toNatClampNeg), .int (xs ((x_3 + (4 : Int32))).toNatClampNeg), .int (xs ((x_3 + (5 : Int32))).toNatClampNeg)] lk_L_137 (c_X9_left l D cy g (xs ((x_3 + (1 : Int32))).toNatClampNeg) (xs ((x_3 + (2 : Int32))).toNatClampNeg) (xs ((x_3 + (3 : Int32))).toNatClampNeg) (xs ((x_3 + (4 : Int32))).toNatClampNeg) (xs ((x_3 + (5 : Int32))).toNatClampNeg)  σ h) zs_0 rfl ⟨by decide, by decide⟩ ⟨rfl, rfl⟩ ⟨by decide, by decide⟩ rfl rfl (Nat.le_of_ble_eq_true rfl) dL_law_1677 (fun r430 σ429 h => ?_)
          refine zx_pop C dL_law_1680 rfl ?_
          refine zx_aload_n C dL_law_1681 2 rfl ?_
          refine zx_aload_n C dL_law_1682 0 rfl ?_
          refine zx_iload_n C dL_law_1683 3 rfl ?_
          refine zx_iconst (v := (1 : Int32)) C dL_law_1684 (by decide) ?_
          refine zx_iadd C dL_law_1685 ?_
          obtain ⟨bd431, h⟩ := h
          refine zx_sld C hX hbl hbA bd431 dL_law_1686 ?_
          refine zx_aload_n C dL_law_1687 0 rfl ?_
          refine zx_iload_n C dL_law_1688 3 rfl ?_
          refine zx_iconst (v := (2 : Int32)) C dL_law_1689 (by decide) ?_
          refine zx_iadd C dL_law_1690 ?_
          obtain ⟨bd432, h⟩ := h
          refine zx_sld C hX hbl hbA bd432 dL_law_1691 ?_
          refine zx_aload_n C dL_law_1692 0 rfl ?_
          refine zx_iload_n C dL_law_1693 3 rfl ?_
          refine zx_iconst (v := (3 : Int32)) C dL_law_1694 (by decide) ?_
          refine zx_iadd C dL_law_1695 ?_
          obtain ⟨bd433, h⟩ := h
          refine zx_sld C hX hbl hbA bd433 dL_law_1696 ?_
          refine zx_aload_n C dL_law_1697 0 rfl ?_
          refine zx_iload_n C dL_law_1698 3 rfl ?_
          refine zx_iconst (v := (4 : Int32)) C dL_law_1699 (by decide) ?_
          refine zx_iadd C dL_law_1700 ?_
          obtain ⟨bd434, h⟩ := h
          refine zx_sld C hX hbl hbA bd434 dL_law_1701 ?_
          refine zx_aload_n C dL_law_1702 0 rfl ?_
          refine zx_iload_n C dL_law_1703 3 rfl ?_
          refine zx_iconst (v := (5 : Int32)) C dL_law_1704 (by decide) ?_
          refine zx_iadd C dL_law_1705 ?_
          obtain ⟨bd435, h⟩ := h
          refine zx_sld C hX hbl hbA bd435 dL_law_1706 ?_
          refine zx_cVi C [.int (xs ((x_3 + (1 : Int32))).toNatClampNeg), .int (xs ((x_3 + (2 : Int32))).toNatClampNeg), .int (xs ((x_3 + (3 : Int32))).toNatClampNeg), .int (xs ((x_3 + (4 : Int32))).toNatClampNeg), .int (xs ((x_3 + (5 : Int32))).toNatClampNeg)] lk_L_140 (c_X10_left l D cy g (xs ((x_3 + (1 : Int32))).toNatClampNeg) (xs ((x_3 + (2 : Int32))).toNatClampNeg) (xs ((x_3 + (3 : Int32))).toNatClampNeg) (xs ((x_3 + (4 : Int32))).toNatClampNeg) (xs ((x_3 + (5 : Int32))).toNatClampNeg)  σ429 h) zs_223 rfl ⟨by decide, by decide⟩ ⟨rfl, rfl⟩ ⟨by decide, by decide⟩ rfl rfl (Nat.le_of_ble_eq_true rfl) dL_law_1707 (fun r437 σ436 h => ?_)
          refine zx_pop C dL_law_1710 rfl ?_
          refine zx_goto C 1836 dL_law_1711 (by decide) ?_
          obtain ⟨x438, ex438⟩ : ∃ y : Int32, y = (x_3 + (6 : Int32)) := ⟨_, rfl⟩
          replace h := h x438 ex438
          refine zx_iinc (v := x438) (lv' := [(3, .int x438), (0, .ref b), (1, .ref (g 0)), (2, .ref (g 223))]) C dL_law_1836 3 rfl (by rw [ex438]; rfl) (by decide) rfl ?_
          refine zx_goto C 18 dL_law_1839 (by decide) ?_
          refine zx_lv (lv' := [(0, .ref b), (1, .ref (g 0)), (2, .ref (g 223)), (3, .int x438)]) [1, 2, 3, 0] rfl ?_
          exact ih x438 σ436 h
        | 30, _, q =>
          replace h := h.2.2.2.2.2.2.2.2.2.2.2.2.2.2.2.2.2.2.2.2.2.2.2.2.2.2.2.2.2.2.1 q
          refine zx_tableIn C 1714 (30 : Int32) q dL_law_33 (by decide) (by decide) rfl (by decide) ?_
          refine zx_aload_n C dL_law_1714 1 rfl ?_
          refine zx_aload_n C dL_law_1715 0 rfl ?_
          refine zx_iload_n C dL_law_1716 3 rfl ?_
          refine zx_iconst (v := (1 : Int32)) C dL_law_1717 (by decide) ?_
          refine zx_iadd C dL_law_1718 ?_
          obtain ⟨bd439, h⟩ := h
          refine zx_sld C hX hbl hbA bd439 dL_law_1719 ?_
          refine zx_aload_n C dL_law_1720 0 rfl ?_
          refine zx_iload_n C dL_law_1721 3 rfl ?_
          refine zx_iconst (v := (2 : Int32)) C dL_law_1722 (by decide) ?_
          refine zx_iadd C dL_law_1723 ?_
          obtain ⟨bd440, h⟩ := h
          refine zx_sld C hX hbl hbA bd440 dL_law_1724 ?_
          refine zx_aload_n C dL_law_1725 0 rfl ?_
          refine zx_iload_n C dL_law_1726 3 rfl ?_
          refine zx_iconst (v := (3 : Int32)) C dL_law_1727 (by decide) ?_
          refine zx_iadd C dL_law_1728 ?_
          obtain ⟨bd441, h⟩ := h
          refine zx_sld C hX hbl hbA bd441 dL_law_1729 ?_
          refine zx_aload_n C dL_law_1730 0 rfl ?_
          refine zx_iload_n C dL_law_1731 3 rfl ?_
          refine zx_iconst (v := (4 : Int32)) C dL_law_1732 (by decide) ?_
          refine zx_iadd C dL_law_1733 ?_
          obtain ⟨bd442, h⟩ := h
          refine zx_sld C hX hbl hbA bd442 dL_law_1734 ?_
          refine zx_cVi C [.int (xs ((x_3 + (1 : Int32))).toNatClampNeg), .int (xs ((x_3 + (2 : Int32))).toNatClampNeg), .int (xs ((x_3 + (3 : Int32))).toNatClampNeg), .int (xs ((x_3 + (4 : Int32))).toNatClampNeg)] lk_L_141 (c_X9_bid l D cy g (xs ((x_3 + (1 : Int32))).toNatClampNeg) (xs ((x_3 + (2 : Int32))).toNatClampNeg) (xs ((x_3 + (3 : Int32))).toNatClampNeg) (xs ((x_3 + (4 : Int32))).toNatClampNeg)  σ h) zs_0 rfl ⟨by decide, by decide⟩ ⟨rfl, rfl⟩ ⟨by decide, by decide⟩ rfl rfl (Nat.le_of_ble_eq_true rfl) dL_law_1735 (fun r444 σ443 h => ?_)
          refine zx_pop C dL_law_1738 rfl ?_
          refine zx_aload_n C dL_law_1739 2 rfl ?_
          refine zx_aload_n C dL_law_1740 0 rfl ?_
          refine zx_iload_n C dL_law_1741 3 rfl ?_
          refine zx_iconst (v := (1 : Int32)) C dL_law_1742 (by decide) ?_
          refine zx_iadd C dL_law_1743 ?_
          obtain ⟨bd445, h⟩ := h
          refine zx_sld C hX hbl hbA bd445 dL_law_1744 ?_
          refine zx_aload_n C dL_law_1745 0 rfl ?_
          refine zx_iload_n C dL_law_1746 3 rfl ?_
          refine zx_iconst (v := (2 : Int32)) C dL_law_1747 (by decide) ?_
          refine zx_iadd C dL_law_1748 ?_
          obtain ⟨bd446, h⟩ := h
          refine zx_sld C hX hbl hbA bd446 dL_law_1749 ?_
          refine zx_aload_n C dL_law_1750 0 rfl ?_
          refine zx_iload_n C dL_law_1751 3 rfl ?_
          refine zx_iconst (v := (3 : Int32)) C dL_law_1752 (by decide) ?_
          refine zx_iadd C dL_law_1753 ?_
          obtain ⟨bd447, h⟩ := h
          refine zx_sld C hX hbl hbA bd447 dL_law_1754 ?_
          refine zx_aload_n C dL_law_1755 0 rfl ?_
          refine zx_iload_n C dL_law_1756 3 rfl ?_
          refine zx_iconst (v := (4 : Int32)) C dL_law_1757 (by decide) ?_
          refine zx_iadd C dL_law_1758 ?_
          obtain ⟨bd448, h⟩ := h
          refine zx_sld C hX hbl hbA bd448 dL_law_1759 ?_
          refine zx_cVi C [.int (xs ((x_3 + (1 : Int32))).toNatClampNeg), .int (xs ((x_3 + (2 : Int32))).toNatClampNeg), .int (xs ((x_3 + (3 : Int32))).toNatClampNeg), .int (xs ((x_3 + (4 : Int32))).toNatClampNeg)] lk_L_144 (c_X10_bid l D cy g (xs ((x_3 + (1 : Int32))).toNatClampNeg) (xs ((x_3 + (2 : Int32))).toNatClampNeg) (xs ((x_3 + (3 : Int32))).toNatClampNeg) (xs ((x_3 + (4 : Int32))).toNatClampNeg)  σ443 h) zs_223 rfl ⟨by decide, by decide⟩ ⟨rfl, rfl⟩ ⟨by decide, by decide⟩ rfl rfl (Nat.le_of_ble_eq_true rfl) dL_law_1760 (fun r450 σ449 h => ?_)
          refine zx_pop C dL_law_1763 rfl ?_
          refine zx_goto C 1836 dL_law_1764 (by decide) ?_
          obtain ⟨x451, ex451⟩ : ∃ y : Int32, y = (x_3 + (6 : Int32)) := ⟨_, rfl⟩
          replace h := h x451 ex451
          refine zx_iinc (v := x451) (lv' := [(3, .int x451), (0, .ref b), (1, .ref (g 0)), (2, .ref (g 223))]) C dL_law_1836 3 rfl (by rw [ex451]; rfl) (by decide) rfl ?_
          refine zx_goto C 18 dL_law_1839 (by decide) ?_
          refine zx_lv (lv' := [(0, .ref b), (1, .ref (g 0)), (2, .ref (g 223)), (3, .int x451)]) [1, 2, 3, 0] rfl ?_
          exact ih x451 σ449 h
        | 31, _, q =>
          replace h := h.2.2.2.2.2.2.2.2.2.2.2.2.2.2.2.2.2.2.2.2.2.2.2.2.2.2.2.2.2.2.2.1 q
          refine zx_tableIn C 1767 (31 : Int32) q dL_law_33 (by decide) (by decide) rfl (by decide) ?_
          refine zx_aload_n C dL_law_1767 1 rfl ?_
          refine zx_aload_n C dL_law_1768 0 rfl ?_
          refine zx_iload_n C dL_law_1769 3 rfl ?_
          refine zx_iconst (v := (1 : Int32)) C dL_law_1770 (by decide) ?_
          refine zx_iadd C dL_law_1771 ?_
          obtain ⟨bd452, h⟩ := h
          refine zx_sld C hX hbl hbA bd452 dL_law_1772 ?_
          refine zx_cVi C [.int (xs ((x_3 + (1 : Int32))).toNatClampNeg)] lk_L_145 (c_X9_count l D cy g (xs ((x_3 + (1 : Int32))).toNatClampNeg)  σ h) zs_0 rfl ⟨by decide, by decide⟩ ⟨rfl, rfl⟩ ⟨by decide, by decide⟩ rfl rfl (Nat.le_of_ble_eq_true rfl) dL_law_1773 (fun r454 σ453 h => ?_)
          refine zx_pop C dL_law_1776 rfl ?_
          refine zx_aload_n C dL_law_1777 2 rfl ?_
          refine zx_aload_n C dL_law_1778 0 rfl ?_
          refine zx_iload_n C dL_law_1779 3 rfl ?_
          refine zx_iconst (v := (1 : Int32)) C dL_law_1780 (by decide) ?_
          refine zx_iadd C dL_law_1781 ?_
          obtain ⟨bd455, h⟩ := h
          refine zx_sld C hX hbl hbA bd455 dL_law_1782 ?_
          refine zx_cVi C [.int (xs ((x_3 + (1 : Int32))).toNatClampNeg)] lk_L_148 (c_X10_count l D cy g (xs ((x_3 + (1 : Int32))).toNatClampNeg)  σ453 h) zs_223 rfl ⟨by decide, by decide⟩ ⟨rfl, rfl⟩ ⟨by decide, by decide⟩ rfl rfl (Nat.le_of_ble_eq_true rfl) dL_law_1783 (fun r457 σ456 h => ?_)
          refine zx_pop C dL_law_1786 rfl ?_
          refine zx_goto C 1836 dL_law_1787 (by decide) ?_
          obtain ⟨x458, ex458⟩ : ∃ y : Int32, y = (x_3 + (6 : Int32)) := ⟨_, rfl⟩
          replace h := h x458 ex458
          refine zx_iinc (v := x458) (lv' := [(3, .int x458), (0, .ref b), (1, .ref (g 0)), (2, .ref (g 223))]) C dL_law_1836 3 rfl (by rw [ex458]; rfl) (by decide) rfl ?_
          refine zx_goto C 18 dL_law_1839 (by decide) ?_
          refine zx_lv (lv' := [(0, .ref b), (1, .ref (g 0)), (2, .ref (g 223)), (3, .int x458)]) [1, 2, 3, 0] rfl ?_
          exact ih x458 σ456 h
        | 32, _, q =>
          replace h := h.2.2.2.2.2.2.2.2.2.2.2.2.2.2.2.2.2.2.2.2.2.2.2.2.2.2.2.2.2.2.2.2.1 q
          refine zx_tableIn C 1790 (32 : Int32) q dL_law_33 (by decide) (by decide) rfl (by decide) ?_
          refine zx_aload_n C dL_law_1790 1 rfl ?_
          refine zx_aload_n C dL_law_1791 0 rfl ?_
          refine zx_iload_n C dL_law_1792 3 rfl ?_
          refine zx_iconst (v := (1 : Int32)) C dL_law_1793 (by decide) ?_
          refine zx_iadd C dL_law_1794 ?_
          obtain ⟨bd459, h⟩ := h
          refine zx_sld C hX hbl hbA bd459 dL_law_1795 ?_
          refine zx_cVb C [.int (xs ((x_3 + (1 : Int32))).toNatClampNeg)] lk_L_149 (c_X9_image l D cy g (xs ((x_3 + (1 : Int32))).toNatClampNeg)  σ h) zs_0 rfl ⟨by decide, by decide⟩ ⟨rfl, rfl⟩ ⟨by decide, by decide⟩ rfl rfl (Nat.le_of_ble_eq_true rfl) dL_law_1796 (fun r461 σ460 hb h => ?_)
          replace h := h hb
          refine zx_pop C dL_law_1799 rfl ?_
          refine zx_aload_n C dL_law_1800 2 rfl ?_
          refine zx_aload_n C dL_law_1801 0 rfl ?_
          refine zx_iload_n C dL_law_1802 3 rfl ?_
          refine zx_iconst (v := (1 : Int32)) C dL_law_1803 (by decide) ?_
          refine zx_iadd C dL_law_1804 ?_
          obtain ⟨bd462, h⟩ := h
          refine zx_sld C hX hbl hbA bd462 dL_law_1805 ?_
          refine zx_cVb C [.int (xs ((x_3 + (1 : Int32))).toNatClampNeg)] lk_L_153 (c_X10_image l D cy g (xs ((x_3 + (1 : Int32))).toNatClampNeg)  σ460 h) zs_223 rfl ⟨by decide, by decide⟩ ⟨rfl, rfl⟩ ⟨by decide, by decide⟩ rfl rfl (Nat.le_of_ble_eq_true rfl) dL_law_1806 (fun r464 σ463 hb h => ?_)
          replace h := h hb
          refine zx_pop C dL_law_1809 rfl ?_
          refine zx_goto C 1836 dL_law_1810 (by decide) ?_
          obtain ⟨x465, ex465⟩ : ∃ y : Int32, y = (x_3 + (6 : Int32)) := ⟨_, rfl⟩
          replace h := h x465 ex465
          refine zx_iinc (v := x465) (lv' := [(3, .int x465), (0, .ref b), (1, .ref (g 0)), (2, .ref (g 223))]) C dL_law_1836 3 rfl (by rw [ex465]; rfl) (by decide) rfl ?_
          refine zx_goto C 18 dL_law_1839 (by decide) ?_
          refine zx_lv (lv' := [(0, .ref b), (1, .ref (g 0)), (2, .ref (g 223)), (3, .int x465)]) [1, 2, 3, 0] rfl ?_
          exact ih x465 σ463 h
        | 33, _, q =>
          replace h := h.2.2.2.2.2.2.2.2.2.2.2.2.2.2.2.2.2.2.2.2.2.2.2.2.2.2.2.2.2.2.2.2.2.1 q
          refine zx_tableIn C 1813 (33 : Int32) q dL_law_33 (by decide) (by decide) rfl (by decide) ?_
          refine zx_aload_n C dL_law_1813 1 rfl ?_
          refine zx_aload_n C dL_law_1814 0 rfl ?_
          refine zx_iload_n C dL_law_1815 3 rfl ?_
          refine zx_iconst (v := (1 : Int32)) C dL_law_1816 (by decide) ?_
          refine zx_iadd C dL_law_1817 ?_
          obtain ⟨bd466, h⟩ := h
          refine zx_sld C hX hbl hbA bd466 dL_law_1818 ?_
          refine zx_cVb C [.int (xs ((x_3 + (1 : Int32))).toNatClampNeg)] lk_L_154 (c_X9_again l D cy g (xs ((x_3 + (1 : Int32))).toNatClampNeg)  σ h) zs_0 rfl ⟨by decide, by decide⟩ ⟨rfl, rfl⟩ ⟨by decide, by decide⟩ rfl rfl (Nat.le_of_ble_eq_true rfl) dL_law_1819 (fun r468 σ467 hb h => ?_)
          replace h := h hb
          refine zx_pop C dL_law_1822 rfl ?_
          refine zx_aload_n C dL_law_1823 2 rfl ?_
          refine zx_aload_n C dL_law_1824 0 rfl ?_
          refine zx_iload_n C dL_law_1825 3 rfl ?_
          refine zx_iconst (v := (1 : Int32)) C dL_law_1826 (by decide) ?_
          refine zx_iadd C dL_law_1827 ?_
          obtain ⟨bd469, h⟩ := h
          refine zx_sld C hX hbl hbA bd469 dL_law_1828 ?_
          refine zx_cVb C [.int (xs ((x_3 + (1 : Int32))).toNatClampNeg)] lk_L_157 (c_X10_again l D cy g (xs ((x_3 + (1 : Int32))).toNatClampNeg)  σ467 h) zs_223 rfl ⟨by decide, by decide⟩ ⟨rfl, rfl⟩ ⟨by decide, by decide⟩ rfl rfl (Nat.le_of_ble_eq_true rfl) dL_law_1829 (fun r471 σ470 hb h => ?_)
          replace h := h hb
          refine zx_pop C dL_law_1832 rfl ?_
          refine zx_goto C 1836 dL_law_1833 (by decide) ?_
          obtain ⟨x472, ex472⟩ : ∃ y : Int32, y = (x_3 + (6 : Int32)) := ⟨_, rfl⟩
          replace h := h x472 ex472
          refine zx_iinc (v := x472) (lv' := [(3, .int x472), (0, .ref b), (1, .ref (g 0)), (2, .ref (g 223))]) C dL_law_1836 3 rfl (by rw [ex472]; rfl) (by decide) rfl ?_
          refine zx_goto C 18 dL_law_1839 (by decide) ?_
          refine zx_lv (lv' := [(0, .ref b), (1, .ref (g 0)), (2, .ref (g 223)), (3, .int x472)]) [1, 2, 3, 0] rfl ?_
          exact ih x472 σ470 h
        | i + 34, hi, _ => exact absurd hi (by omega)
