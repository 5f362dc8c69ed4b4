/-! THE CLAIM OUT OF ONE WALK OF THE LAW'S BODY. Your part is whole_start (and what it stands on); all else here is the same for every law, but numbers. -/
def R_law : String := "SoldSeatLaw"
def lw_P (b : Addr) (xs : List Int32) (args : Array Value) (s : State) : Prop := args = #[.ref b] ∧ s.IntsAt b xs ∧ xs.length ≤ 448 ∧ (Jvm.Cond.and given_1 narrow_1).before args s = true
def lw_Q (_ : Array Value) (s : State) (o : Outcome) (t : State) : Prop := o = .returned (some (.int 1)) ∧ Framed s o t [] 147 2578
def lw_Z (below : List Frame) (a : Array Value) (s : State) : State → Prop := fun t => ∃ o, t.status = .running ∧ Ended t below o ∧ lw_Q a s o t
/-- the law's own end, with 1 on the stack, nothing written that was there before, its room as the claim has it -/
theorem lw_ret {p : Program} {l : Launch} {e : Env} {s : State} {m : MethodId} {below : List Frame} {meth : Method} {c : Code} {b : Nat} (hx : p.tables.exec = Jvm.exec) (hb : c.code = code) (hr : meth.sig.returnType = ret) (hlocks : meth.locks = false) {pc : Nat} {H : Heap} {ls : Array Slot} (hdg : decode code pc = .ok (.ireturn, 1)) : W p l e room_1 s m #[Value.ref b] below meth c H [] 147 2578 (lw_Z below #[Value.ref b] s) (F0 m pc ls [.int 1]) := by
  intro T hT X
  obtain ⟨fs, hret, hrun, hended, hW, hframe⟩ := X.leave (v := some (.int 1)) (hlocks := hlocks) (fun h => by rw [hr] at h; cases h)
  have hmeth' : T.vm.method? m = some meth := X.method'
  refine ⟨T.setFrames fs, ?_, .returned (some (.int 1)), hrun, hended, rfl, ⟨_, rfl⟩, hW, hframe⟩
  jvm_step X.here [X.here.top, hx, hb, hdg, hmeth', hr, ret, narrow_b1]
  (try refine ⟨rfl, ?_⟩); (try refine ⟨rfl, ?_⟩)
  first | (intro acts; rw [hret _ acts rfl rfl rfl]) | rw [hret _ _ rfl rfl rfl]
  exact Steps.refl _
/-- what holds at the law's entry: the machine, the code, the tables' words (any of lw_tbl by 'hts w (by decide +kernel)'), the script of L ints xs at the cell b, what the Statement gives of the start (any of its parts by flat_of_before) -/
def lw_At (p : Program) (s : State) (m : MethodId) (meth : Method) (c : Code) (b L : Nat) (xs : Nat → Int32) : Prop :=
  p.tables.exec = Jvm.exec ∧ c.code = code ∧ meth.sig.returnType = ret ∧ c.maxLocals = 4 ∧ s.vm.findClass R_law = some m.cls ∧ (∀ w ∈ lw_tbl, w.before #[Value.ref b] s = true) ∧ va_X b L xs s s.heap ∧ b < s.heap.size ∧ meth.locks = false ∧ (Jvm.Cond.and given_1 narrow_1).before #[Value.ref b] s = true
-- the links of the law
theorem lx_k13 : Cond.methodLink R_law 13 (ax_m 49).1 ∈ ax_gw := ax_gi (ax_in_t1 (List.mem_of_getElem? (i := 184) rfl)) rfl
theorem lx_k17 : Cond.methodLink R_law 17 (ax_m 110).1 ∈ ax_gw := ax_gi (ax_in_t4 (List.mem_of_getElem? (i := 61) rfl)) rfl
theorem lx_k18 : Cond.methodLink R_law 18 (ax_m 50).1 ∈ ax_gw := ax_gi (ax_in_t1 (List.mem_of_getElem? (i := 199) rfl)) rfl
theorem lx_k22 : Cond.methodLink R_law 22 (ax_m 117).1 ∈ ax_gw := ax_gi (ax_in_t4 (List.mem_of_getElem? (i := 75) rfl)) rfl
theorem lx_k23 : Cond.methodLink R_law 23 (ax_m 51).1 ∈ ax_gw := ax_gi (ax_in_t1 (List.mem_of_getElem? (i := 228) rfl)) rfl
theorem lx_k27 : Cond.methodLink R_law 27 (ax_m 118).1 ∈ ax_gw := ax_gi (ax_in_t4 (List.mem_of_getElem? (i := 107) rfl)) rfl
theorem lx_k28 : Cond.methodLink R_law 28 (ax_m 52).1 ∈ ax_gw := ax_gi (ax_in_t1 (List.mem_of_getElem? (i := 232) rfl)) rfl
theorem lx_k31 : Cond.methodLink R_law 31 (ax_m 119).1 ∈ ax_gw := ax_gi (ax_in_t4 (List.mem_of_getElem? (i := 111) rfl)) rfl
theorem lx_k32 : Cond.methodLink R_law 32 (ax_m 53).1 ∈ ax_gw := ax_gi (ax_in_t2 (List.mem_of_getElem? (i := 5) rfl)) rfl
theorem lx_k36 : Cond.methodLink R_law 36 (ax_m 125).1 ∈ ax_gw := ax_gi (ax_in_t4 (List.mem_of_getElem? (i := 117) rfl)) rfl
theorem lx_k37 : Cond.methodLink R_law 37 (ax_m 54).1 ∈ ax_gw := ax_gi (ax_in_t2 (List.mem_of_getElem? (i := 145) rfl)) rfl
theorem lx_k40 : Cond.methodLink R_law 40 (ax_m 127).1 ∈ ax_gw := ax_gi (ax_in_t4 (List.mem_of_getElem? (i := 143) rfl)) rfl
theorem lx_k41 : Cond.methodLink R_law 41 (ax_m 55).1 ∈ ax_gw := ax_gi (ax_in_t2 (List.mem_of_getElem? (i := 163) rfl)) rfl
theorem lx_k44 : Cond.methodLink R_law 44 (ax_m 133).1 ∈ ax_gw := ax_gi (ax_in_t4 (List.mem_of_getElem? (i := 166) rfl)) rfl
theorem lx_k45 : Cond.methodLink R_law 45 (ax_m 56).1 ∈ ax_gw := ax_gi (ax_in_t2 (List.mem_of_getElem? (i := 198) rfl)) rfl
theorem lx_k48 : Cond.methodLink R_law 48 (ax_m 134).1 ∈ ax_gw := ax_gi (ax_in_t4 (List.mem_of_getElem? (i := 187) rfl)) rfl
theorem lx_k49 : Cond.methodLink R_law 49 (ax_m 57).1 ∈ ax_gw := ax_gi (ax_in_t2 (List.mem_of_getElem? (i := 207) rfl)) rfl
theorem lx_k52 : Cond.methodLink R_law 52 (ax_m 137).1 ∈ ax_gw := ax_gi (ax_in_t4 (List.mem_of_getElem? (i := 191) rfl)) rfl
theorem lx_k53 : Cond.methodLink R_law 53 (ax_m 58).1 ∈ ax_gw := ax_gi (ax_in_t2 (List.mem_of_getElem? (i := 215) rfl)) rfl
theorem lx_k56 : Cond.methodLink R_law 56 (ax_m 138).1 ∈ ax_gw := ax_gi (ax_in_t4 (List.mem_of_getElem? (i := 203) rfl)) rfl
theorem lx_k57 : Cond.methodLink R_law 57 (ax_m 59).1 ∈ ax_gw := ax_gi (ax_in_t2 (List.mem_of_getElem? (i := 220) rfl)) rfl
theorem lx_k60 : Cond.methodLink R_law 60 (ax_m 139).1 ∈ ax_gw := ax_gi (ax_in_t4 (List.mem_of_getElem? (i := 207) rfl)) rfl
theorem lx_k61 : Cond.methodLink R_law 61 (ax_m 60).1 ∈ ax_gw := ax_gi (ax_in_t2 (List.mem_of_getElem? (i := 224) rfl)) rfl
theorem lx_k64 : Cond.methodLink R_law 64 (ax_m 140).1 ∈ ax_gw := ax_gi (ax_in_t4 (List.mem_of_getElem? (i := 211) rfl)) rfl
theorem lx_k65 : Cond.methodLink R_law 65 (ax_m 61).1 ∈ ax_gw := ax_gi (ax_in_t2 (List.mem_of_getElem? (i := 228) rfl)) rfl
theorem lx_k68 : Cond.methodLink R_law 68 (ax_m 132).1 ∈ ax_gw := ax_gi (ax_in_t4 (List.mem_of_getElem? (i := 158) rfl)) rfl
theorem lx_k69 : Cond.methodLink R_law 69 (ax_m 62).1 ∈ ax_gw := ax_gi (ax_in_t2 (List.mem_of_getElem? (i := 236) rfl)) rfl
theorem lx_k72 : Cond.methodLink R_law 72 (ax_m 141).1 ∈ ax_gw := ax_gi (ax_in_t4 (List.mem_of_getElem? (i := 219) rfl)) rfl
theorem lx_k73 : Cond.methodLink R_law 73 (ax_m 63).1 ∈ ax_gw := ax_gi (ax_in_t3 (List.mem_of_getElem? (i := 0) rfl)) rfl
theorem lx_k76 : Cond.methodLink R_law 76 (ax_m 144).1 ∈ ax_gw := ax_gi (ax_in_t4 (List.mem_of_getElem? (i := 223) rfl)) rfl
theorem lx_k77 : Cond.methodLink R_law 77 (ax_m 64).1 ∈ ax_gw := ax_gi (ax_in_t3 (List.mem_of_getElem? (i := 13) rfl)) rfl
theorem lx_k80 : Cond.methodLink R_law 80 (ax_m 145).1 ∈ ax_gw := ax_gi (ax_in_t4 (List.mem_of_getElem? (i := 235) rfl)) rfl
theorem lx_k81 : Cond.methodLink R_law 81 (ax_m 65).1 ∈ ax_gw := ax_gi (ax_in_t3 (List.mem_of_getElem? (i := 17) rfl)) rfl
theorem lx_k84 : Cond.methodLink R_law 84 (ax_m 146).1 ∈ ax_gw := ax_gi (ax_in_t4 (List.mem_of_getElem? (i := 239) rfl)) rfl
theorem lx_k85 : Cond.methodLink R_law 85 (ax_m 66).1 ∈ ax_gw := ax_gi (ax_in_t3 (List.mem_of_getElem? (i := 21) rfl)) rfl
theorem lx_k88 : Cond.methodLink R_law 88 (ax_m 148).1 ∈ ax_gw := ax_gi (ax_in_t5 (List.mem_of_getElem? (i := 3) rfl)) rfl
theorem lx_k89 : Cond.methodLink R_law 89 (ax_m 67).1 ∈ ax_gw := ax_gi (ax_in_t3 (List.mem_of_getElem? (i := 37) rfl)) rfl
theorem lx_k92 : Cond.methodLink R_law 92 (ax_m 155).1 ∈ ax_gw := ax_gi (ax_in_t5 (List.mem_of_getElem? (i := 13) rfl)) rfl
theorem lx_k93 : Cond.methodLink R_law 93 (ax_m 68).1 ∈ ax_gw := ax_gi (ax_in_t3 (List.mem_of_getElem? (i := 83) rfl)) rfl
theorem lx_k96 : Cond.methodLink R_law 96 (ax_m 156).1 ∈ ax_gw := ax_gi (ax_in_t5 (List.mem_of_getElem? (i := 41) rfl)) rfl
theorem lx_k97 : Cond.methodLink R_law 97 (ax_m 69).1 ∈ ax_gw := ax_gi (ax_in_t3 (List.mem_of_getElem? (i := 100) rfl)) rfl
theorem lx_k100 : Cond.methodLink R_law 100 (ax_m 157).1 ∈ ax_gw := ax_gi (ax_in_t5 (List.mem_of_getElem? (i := 46) rfl)) rfl
theorem lx_k101 : Cond.methodLink R_law 101 (ax_m 70).1 ∈ ax_gw := ax_gi (ax_in_t3 (List.mem_of_getElem? (i := 104) rfl)) rfl
theorem lx_k104 : Cond.methodLink R_law 104 (ax_m 158).1 ∈ ax_gw := ax_gi (ax_in_t5 (List.mem_of_getElem? (i := 50) rfl)) rfl
theorem lx_k105 : Cond.methodLink R_law 105 (ax_m 71).1 ∈ ax_gw := ax_gi (ax_in_t3 (List.mem_of_getElem? (i := 108) rfl)) rfl
theorem lx_k108 : Cond.methodLink R_law 108 (ax_m 159).1 ∈ ax_gw := ax_gi (ax_in_t5 (List.mem_of_getElem? (i := 54) rfl)) rfl
theorem lx_k109 : Cond.methodLink R_law 109 (ax_m 72).1 ∈ ax_gw := ax_gi (ax_in_t3 (List.mem_of_getElem? (i := 117) rfl)) rfl
theorem lx_k112 : Cond.methodLink R_law 112 (ax_m 161).1 ∈ ax_gw := ax_gi (ax_in_t5 (List.mem_of_getElem? (i := 58) rfl)) rfl
theorem lx_k113 : Cond.methodLink R_law 113 (ax_m 73).1 ∈ ax_gw := ax_gi (ax_in_t3 (List.mem_of_getElem? (i := 125) rfl)) rfl
theorem lx_k116 : Cond.methodLink R_law 116 (ax_m 162).1 ∈ ax_gw := ax_gi (ax_in_t5 (List.mem_of_getElem? (i := 66) rfl)) rfl
theorem lx_k117 : Cond.methodLink R_law 117 (ax_m 74).1 ∈ ax_gw := ax_gi (ax_in_t3 (List.mem_of_getElem? (i := 129) rfl)) rfl
theorem lx_k121 : Cond.methodLink R_law 121 (ax_m 164).1 ∈ ax_gw := ax_gi (ax_in_t5 (List.mem_of_getElem? (i := 70) rfl)) rfl
theorem lx_k122 : Cond.methodLink R_law 122 (ax_m 75).1 ∈ ax_gw := ax_gi (ax_in_t3 (List.mem_of_getElem? (i := 146) rfl)) rfl
theorem lx_k125 : Cond.methodLink R_law 125 (ax_m 165).1 ∈ ax_gw := ax_gi (ax_in_t5 (List.mem_of_getElem? (i := 80) rfl)) rfl
theorem lx_k126 : Cond.methodLink R_law 126 (ax_m 76).1 ∈ ax_gw := ax_gi (ax_in_t3 (List.mem_of_getElem? (i := 154) rfl)) rfl
theorem lx_k129 : Cond.methodLink R_law 129 (ax_m 166).1 ∈ ax_gw := ax_gi (ax_in_t5 (List.mem_of_getElem? (i := 84) rfl)) rfl
theorem lx_k130 : Cond.methodLink R_law 130 (ax_m 77).1 ∈ ax_gw := ax_gi (ax_in_t3 (List.mem_of_getElem? (i := 158) rfl)) rfl
theorem lx_k134 : Cond.methodLink R_law 134 (ax_m 172).1 ∈ ax_gw := ax_gi (ax_in_t5 (List.mem_of_getElem? (i := 88) rfl)) rfl
theorem lx_k135 : Cond.methodLink R_law 135 (ax_m 78).1 ∈ ax_gw := ax_gi (ax_in_t3 (List.mem_of_getElem? (i := 188) rfl)) rfl
theorem lx_k139 : Cond.methodLink R_law 139 (ax_m 173).1 ∈ ax_gw := ax_gi (ax_in_t5 (List.mem_of_getElem? (i := 108) rfl)) rfl
theorem lx_k140 : Cond.methodLink R_law 140 (ax_m 79).1 ∈ ax_gw := ax_gi (ax_in_t3 (List.mem_of_getElem? (i := 206) rfl)) rfl
theorem lx_k143 : Cond.methodLink R_law 143 (ax_m 174).1 ∈ ax_gw := ax_gi (ax_in_t5 (List.mem_of_getElem? (i := 114) rfl)) rfl
theorem lx_k144 : Cond.methodLink R_law 144 (ax_m 80).1 ∈ ax_gw := ax_gi (ax_in_t3 (List.mem_of_getElem? (i := 214) rfl)) rfl
theorem lx_k147 : Cond.methodLink R_law 147 (ax_m 175).1 ∈ ax_gw := ax_gi (ax_in_t5 (List.mem_of_getElem? (i := 122) rfl)) rfl
theorem lx_k148 : Cond.methodLink R_law 148 (ax_m 81).1 ∈ ax_gw := ax_gi (ax_in_t3 (List.mem_of_getElem? (i := 225) rfl)) rfl
theorem lx_k151 : Cond.methodLink R_law 151 (ax_m 176).1 ∈ ax_gw := ax_gi (ax_in_t5 (List.mem_of_getElem? (i := 126) rfl)) rfl
theorem lx_k154 : Cond.methodLink R_law 154 (ax_m 82).1 ∈ ax_gw := ax_gi (ax_in_t3 (List.mem_of_getElem? (i := 234) rfl)) rfl
theorem lx_k158 : Cond.methodLink R_law 158 (ax_m 177).1 ∈ ax_gw := ax_gi (ax_in_t5 (List.mem_of_getElem? (i := 130) rfl)) rfl
theorem lx_k159 : Cond.methodLink R_law 159 (ax_m 83).1 ∈ ax_gw := ax_gi (ax_in_t3 (List.mem_of_getElem? (i := 238) rfl)) rfl
theorem lx_k163 : Cond.methodLink R_law 163 (ax_m 178).1 ∈ ax_gw := ax_gi (ax_in_t5 (List.mem_of_getElem? (i := 134) rfl)) rfl
theorem lx_c152 : Cond.constantLong R_law 152 4294967295 ∈ ax_gw := ax_gi (ax_in_t5 (List.mem_of_getElem? (i := 138) rfl)) rfl
