/-! ===== each instruction is what decode finds, its links are among the words, the rooms fit: by numbers ===== -/
def ax_ckC (mi a : Nat) : Bool := Nat.ble (a + 1) ax_NM && (Nat.ble ((ax_m a).2.2.2.2.2.1.1 + 1) (ax_m mi).2.2.2.2.2.1.1 && Nat.ble (8 + ((ax_m a).2.2.1 + 11) + (ax_m a).2.2.2.2.2.1.2) (ax_m mi).2.2.2.2.2.1.2)
def ax_ckF (o i a b w : Nat) : Bool := (match ax_lF[w]? with | some q => Nat.beq q.1 o && (Nat.beq q.2.1 i && (Nat.beq q.2.2.1 a && Nat.beq q.2.2.2 b)) | none => false)
def ax_nf (a : Nat) : Nat := ([3, 3, 11, 3, 3, 10, 17] : List Nat).getD a 0
def ax_ckK (o i w c : Nat) : Bool := (match ax_lM[w]? with | some q => Nat.beq q.1 o && (Nat.beq q.2.1 i && Nat.beq q.2.2 c) | none => false)
def ax_ckA (mi : Nat) : Bool := Nat.ble 1 (ax_m mi).2.2.2.2.2.1.1 && Nat.ble (8 + (nativeFrameWords "java/lang/System" "arraycopy" 5 + 11)) (ax_m mi).2.2.2.2.2.1.2
def ax_ckI (mi pc : Nat) (I : ax_I) : Bool :=
  (match decode (ax_m mi).2.1 pc with | .ok q => decide (q = I.1) | .error _ => false) &&
  (match I.1.1 with
  | .iconst n => I.1.2 == 1 && decide (Int32.ofInt n = I.2.2.1)
  | .bipush n => I.1.2 == 2 && decide ((Int8.ofInt n).toInt32 = I.2.2.1)
  | .sipush n => I.1.2 == 3 && decide ((Int16.ofInt n).toInt32 = I.2.2.1)
  | .ldc i => I.1.2 == 2 && (bif I.2.1.1 == 1 then Nat.beq (ax_m mi).2.2.2.2.1.2.2 4 && i == 42 else (match ax_lK[I.2.1.2.2]? with | some q => Nat.beq q.1 (ax_m mi).2.2.2.2.1.2.2 && (Nat.beq q.2.1 i && decide (q.2.2 = I.2.2.1)) | none => false))
  | .ldc_w i => I.1.2 == 3 && (match ax_lK[I.2.1.2.2]? with | some q => Nat.beq q.1 (ax_m mi).2.2.2.2.1.2.2 && (Nat.beq q.2.1 i && decide (q.2.2 = I.2.2.1)) | none => false)
  | .lconst n => I.1.2 == 1 && decide (Int64.ofNat (n : Nat) = I.2.2.2)
  | .ldc2_w i => I.1.2 == 3 && (match ax_lJ[I.2.1.2.2]? with | some q => Nat.beq q.1 (ax_m mi).2.2.2.2.1.2.2 && (Nat.beq q.2.1 i && decide (q.2.2 = I.2.2.2)) | none => false)
  | .iload _ | .lload _ | .aload _ | .istore _ | .lstore _ | .astore _ => I.1.2 == 2
  | .iinc _ _ => I.1.2 == 3
  | .goto off => I.1.2 == 3 && decide ((pc : Int) + off = (I.2.1.1 : Int))
  | .ifCond _ off => I.1.2 == 3 && decide ((pc : Int) + off = (I.2.1.1 : Int))
  | .if_icmp _ off => I.1.2 == 3 && decide ((pc : Int) + off = (I.2.1.1 : Int))
  | .tableswitch d _ _ offs => decide (0 ≤ (pc : Int) + d) && offs.toList.all (fun o => decide (0 ≤ (pc : Int) + o))
  | .getfield i => I.1.2 == 3 && (Nat.ble (I.2.1.1 + 1) 7 && (Nat.ble (I.2.1.2.1 + 1) (ax_nf I.2.1.1) && ax_ckF (ax_m mi).2.2.2.2.1.2.2 i I.2.1.1 I.2.1.2.1 I.2.1.2.2))
  | .putfield i => I.1.2 == 3 && ((Nat.ble (I.2.1.1 + 1) 7 && (Nat.ble (I.2.1.2.1 + 1) (ax_nf I.2.1.1) && ax_ckF (ax_m mi).2.2.2.2.1.2.2 i I.2.1.1 I.2.1.2.1 I.2.1.2.2)) &&
      ((ax_T I.2.1.1 I.2.1.2.1).2.2.2 == false && decide (([tyX0, tyX1, tyX2, tyX3, tyX4, tyX5, tyX6] : List (Nat → FieldType)).getD I.2.1.1 tyX0 I.2.1.2.1 = (bif I.2.2.1 == 0 then .int else .boolean))))
  | .invokevirtual i => I.1.2 == 3 && (bif I.2.1.2.1 == 3 then ax_ckK (ax_m mi).2.2.2.2.1.2.2 i I.2.1.2.2 1001 && (Nat.ble 5 (ax_m mi).2.2.2.2.2.1.1 && Nat.ble 130 (ax_m mi).2.2.2.2.2.1.2) else
      ax_ckK (ax_m mi).2.2.2.2.1.2.2 i I.2.1.2.2 I.2.1.1 && ((ax_m I.2.1.1).2.2.2.2.1.1 == false && ax_ckC mi I.2.1.1))
  | .invokestatic i => I.1.2 == 3 && (bif I.2.1.2.1 == 1 || I.2.1.2.1 == 2 then ax_ckK (ax_m mi).2.2.2.2.1.2.2 i I.2.1.2.2 1000 && ax_ckA mi else
      bif I.2.1.2.1 == 4 then ax_ckK (ax_m mi).2.2.2.2.1.2.2 i I.2.1.2.2 1002 && ax_ckA mi else bif I.2.1.2.1 == 5 then ax_ckK (ax_m mi).2.2.2.2.1.2.2 i I.2.1.2.2 1003 && ax_ckA mi else
      ax_ckK (ax_m mi).2.2.2.2.1.2.2 i I.2.1.2.2 I.2.1.1 && ((ax_m I.2.1.1).2.2.2.2.1.1 == true && ax_ckC mi I.2.1.1))
  | .ireturn => I.1.2 == 1 && decide ((ax_m mi).2.2.2.1 = some (match I.2.1.1 with | 0 => .int | 1 => .boolean | _ => .char))
  | .lreturn => I.1.2 == 1 && decide ((ax_m mi).2.2.2.1 = some .long)
  | .return_ => I.1.2 == 1 && decide ((ax_m mi).2.2.2.1 = none)
  | _ => I.1.2 == 1)
def ax_ckT (mi : Nat) : Prop := (ax_ks.getD mi []).all (fun q => ax_ckI mi q.1 q.2) = true
theorem ax_ck0 : ax_k0.all (fun q => ax_ckI 0 q.1 q.2) = true := by decide +kernel
theorem ax_ck1 : ax_k1.all (fun q => ax_ckI 1 q.1 q.2) = true := by decide +kernel
theorem ax_ck2 : ax_k2.all (fun q => ax_ckI 2 q.1 q.2) = true := by decide +kernel
theorem ax_ck3 : ax_k3.all (fun q => ax_ckI 3 q.1 q.2) = true := by decide +kernel
theorem ax_ck4 : ax_k4.all (fun q => ax_ckI 4 q.1 q.2) = true := by decide +kernel
theorem ax_ck5 : ax_k5.all (fun q => ax_ckI 5 q.1 q.2) = true := by decide +kernel
theorem ax_ck6 : ax_k6.all (fun q => ax_ckI 6 q.1 q.2) = true := by decide +kernel
theorem ax_ck7 : ax_k7.all (fun q => ax_ckI 7 q.1 q.2) = true := by decide +kernel
theorem ax_ck8 : ax_k8.all (fun q => ax_ckI 8 q.1 q.2) = true := by decide +kernel
theorem ax_ck9 : ax_k9.all (fun q => ax_ckI 9 q.1 q.2) = true := by decide +kernel
theorem ax_ck10 : ax_k10.all (fun q => ax_ckI 10 q.1 q.2) = true := by decide +kernel
theorem ax_ck11 : ax_k11.all (fun q => ax_ckI 11 q.1 q.2) = true := by decide +kernel
theorem ax_ck12 : ax_k12.all (fun q => ax_ckI 12 q.1 q.2) = true := by decide +kernel
theorem ax_ck13 : ax_k13.all (fun q => ax_ckI 13 q.1 q.2) = true := by decide +kernel
theorem ax_ck14 : ax_k14.all (fun q => ax_ckI 14 q.1 q.2) = true := by decide +kernel
theorem ax_ck15 : ax_k15.all (fun q => ax_ckI 15 q.1 q.2) = true := by decide +kernel
theorem ax_ck16 : ax_k16.all (fun q => ax_ckI 16 q.1 q.2) = true := by decide +kernel
theorem ax_ck17 : ax_k17.all (fun q => ax_ckI 17 q.1 q.2) = true := by decide +kernel
theorem ax_ck18 : ax_k18.all (fun q => ax_ckI 18 q.1 q.2) = true := by decide +kernel
theorem ax_ck19 : ax_k19.all (fun q => ax_ckI 19 q.1 q.2) = true := by decide +kernel
theorem ax_ck20 : ax_k20.all (fun q => ax_ckI 20 q.1 q.2) = true := by decide +kernel
theorem ax_ck21 : ax_k21.all (fun q => ax_ckI 21 q.1 q.2) = true := by decide +kernel
theorem ax_ck22 : ax_k22.all (fun q => ax_ckI 22 q.1 q.2) = true := by decide +kernel
theorem ax_ck23 : ax_k23.all (fun q => ax_ckI 23 q.1 q.2) = true := by decide +kernel
theorem ax_ck24 : ax_k24.all (fun q => ax_ckI 24 q.1 q.2) = true := by decide +kernel
theorem ax_ck25 : ax_k25.all (fun q => ax_ckI 25 q.1 q.2) = true := by decide +kernel
theorem ax_ck26 : ax_k26.all (fun q => ax_ckI 26 q.1 q.2) = true := by decide +kernel
theorem ax_ck27 : ax_k27.all (fun q => ax_ckI 27 q.1 q.2) = true := by decide +kernel
theorem ax_ck28 : ax_k28.all (fun q => ax_ckI 28 q.1 q.2) = true := by decide +kernel
theorem ax_ck29 : ax_k29.all (fun q => ax_ckI 29 q.1 q.2) = true := by decide +kernel
theorem ax_ck30 : ax_k30.all (fun q => ax_ckI 30 q.1 q.2) = true := by decide +kernel
theorem ax_ck31 : ax_k31.all (fun q => ax_ckI 31 q.1 q.2) = true := by decide +kernel
theorem ax_ck32 : ax_k32.all (fun q => ax_ckI 32 q.1 q.2) = true := by decide +kernel
theorem ax_ck33 : ax_k33.all (fun q => ax_ckI 33 q.1 q.2) = true := by decide +kernel
theorem ax_ck34 : ax_k34.all (fun q => ax_ckI 34 q.1 q.2) = true := by decide +kernel
theorem ax_ck35 : ax_k35.all (fun q => ax_ckI 35 q.1 q.2) = true := by decide +kernel
theorem ax_ck36 : ax_k36.all (fun q => ax_ckI 36 q.1 q.2) = true := by decide +kernel
theorem ax_ck37 : ax_k37.all (fun q => ax_ckI 37 q.1 q.2) = true := by decide +kernel
theorem ax_ck38 : ax_k38.all (fun q => ax_ckI 38 q.1 q.2) = true := by decide +kernel
theorem ax_ck39 : ax_k39.all (fun q => ax_ckI 39 q.1 q.2) = true := by decide +kernel
theorem ax_ck40 : ax_k40.all (fun q => ax_ckI 40 q.1 q.2) = true := by decide +kernel
theorem ax_ck41 : ax_k41.all (fun q => ax_ckI 41 q.1 q.2) = true := by decide +kernel
theorem ax_ck42 : ax_k42.all (fun q => ax_ckI 42 q.1 q.2) = true := by decide +kernel
theorem ax_ck43 : ax_k43.all (fun q => ax_ckI 43 q.1 q.2) = true := by decide +kernel
theorem ax_ck44 : ax_k44.all (fun q => ax_ckI 44 q.1 q.2) = true := by decide +kernel
theorem ax_ck45 : ax_k45.all (fun q => ax_ckI 45 q.1 q.2) = true := by decide +kernel
theorem ax_ck46 : ax_k46.all (fun q => ax_ckI 46 q.1 q.2) = true := by decide +kernel
theorem ax_ck47 : ax_k47.all (fun q => ax_ckI 47 q.1 q.2) = true := by decide +kernel
theorem ax_ck48 : ax_k48.all (fun q => ax_ckI 48 q.1 q.2) = true := by decide +kernel
theorem ax_ck49 : ax_k49.all (fun q => ax_ckI 49 q.1 q.2) = true := by decide +kernel
theorem ax_ck50 : ax_k50.all (fun q => ax_ckI 50 q.1 q.2) = true := by decide +kernel
theorem ax_ck51 : ax_k51.all (fun q => ax_ckI 51 q.1 q.2) = true := by decide +kernel
theorem ax_ck52 : ax_k52.all (fun q => ax_ckI 52 q.1 q.2) = true := by decide +kernel
theorem ax_ck53 : ax_k53.all (fun q => ax_ckI 53 q.1 q.2) = true := by decide +kernel
theorem ax_ck54 : ax_k54.all (fun q => ax_ckI 54 q.1 q.2) = true := by decide +kernel
theorem ax_ck55 : ax_k55.all (fun q => ax_ckI 55 q.1 q.2) = true := by decide +kernel
theorem ax_ck56 : ax_k56.all (fun q => ax_ckI 56 q.1 q.2) = true := by decide +kernel
theorem ax_ck57 : ax_k57.all (fun q => ax_ckI 57 q.1 q.2) = true := by decide +kernel
theorem ax_ck58 : ax_k58.all (fun q => ax_ckI 58 q.1 q.2) = true := by decide +kernel
theorem ax_ck59 : ax_k59.all (fun q => ax_ckI 59 q.1 q.2) = true := by decide +kernel
theorem ax_ck60 : ax_k60.all (fun q => ax_ckI 60 q.1 q.2) = true := by decide +kernel
theorem ax_ck61 : ax_k61.all (fun q => ax_ckI 61 q.1 q.2) = true := by decide +kernel
theorem ax_ck62 : ax_k62.all (fun q => ax_ckI 62 q.1 q.2) = true := by decide +kernel
theorem ax_ck63 : ax_k63.all (fun q => ax_ckI 63 q.1 q.2) = true := by decide +kernel
theorem ax_ck64 : ax_k64.all (fun q => ax_ckI 64 q.1 q.2) = true := by decide +kernel
theorem ax_ck65 : ax_k65.all (fun q => ax_ckI 65 q.1 q.2) = true := by decide +kernel
theorem ax_ck66 : ax_k66.all (fun q => ax_ckI 66 q.1 q.2) = true := by decide +kernel
theorem ax_ck67 : ax_k67.all (fun q => ax_ckI 67 q.1 q.2) = true := by decide +kernel
theorem ax_ck68 : ax_k68.all (fun q => ax_ckI 68 q.1 q.2) = true := by decide +kernel
theorem ax_ck69 : ax_k69.all (fun q => ax_ckI 69 q.1 q.2) = true := by decide +kernel
theorem ax_ck70 : ax_k70.all (fun q => ax_ckI 70 q.1 q.2) = true := by decide +kernel
theorem ax_ck71 : ax_k71.all (fun q => ax_ckI 71 q.1 q.2) = true := by decide +kernel
theorem ax_ck72 : ax_k72.all (fun q => ax_ckI 72 q.1 q.2) = true := by decide +kernel
theorem ax_ck73 : ax_k73.all (fun q => ax_ckI 73 q.1 q.2) = true := by decide +kernel
theorem ax_ck74 : ax_k74.all (fun q => ax_ckI 74 q.1 q.2) = true := by decide +kernel
theorem ax_ck75 : ax_k75.all (fun q => ax_ckI 75 q.1 q.2) = true := by decide +kernel
theorem ax_ck76 : ax_k76.all (fun q => ax_ckI 76 q.1 q.2) = true := by decide +kernel
theorem ax_ck77 : ax_k77.all (fun q => ax_ckI 77 q.1 q.2) = true := by decide +kernel
theorem ax_ck78 : ax_k78.all (fun q => ax_ckI 78 q.1 q.2) = true := by decide +kernel
theorem ax_ck79 : ax_k79.all (fun q => ax_ckI 79 q.1 q.2) = true := by decide +kernel
theorem ax_ck80 : ax_k80.all (fun q => ax_ckI 80 q.1 q.2) = true := by decide +kernel
theorem ax_ck81 : ax_k81.all (fun q => ax_ckI 81 q.1 q.2) = true := by decide +kernel
theorem ax_ck82 : ax_k82.all (fun q => ax_ckI 82 q.1 q.2) = true := by decide +kernel
theorem ax_ck83 : ax_k83.all (fun q => ax_ckI 83 q.1 q.2) = true := by decide +kernel
theorem ax_ck84 : ax_k84.all (fun q => ax_ckI 84 q.1 q.2) = true := by decide +kernel
theorem ax_ck85 : ax_k85.all (fun q => ax_ckI 85 q.1 q.2) = true := by decide +kernel
theorem ax_ck86 : ax_k86.all (fun q => ax_ckI 86 q.1 q.2) = true := by decide +kernel
theorem ax_ck87 : ax_k87.all (fun q => ax_ckI 87 q.1 q.2) = true := by decide +kernel
theorem ax_ck88 : ax_k88.all (fun q => ax_ckI 88 q.1 q.2) = true := by decide +kernel
theorem ax_ck89 : ax_k89.all (fun q => ax_ckI 89 q.1 q.2) = true := by decide +kernel
theorem ax_ck90 : ax_k90.all (fun q => ax_ckI 90 q.1 q.2) = true := by decide +kernel
theorem ax_ck91 : ax_k91.all (fun q => ax_ckI 91 q.1 q.2) = true := by decide +kernel
theorem ax_ck92 : ax_k92.all (fun q => ax_ckI 92 q.1 q.2) = true := by decide +kernel
theorem ax_ck93 : ax_k93.all (fun q => ax_ckI 93 q.1 q.2) = true := by decide +kernel
theorem ax_ck94 : ax_k94.all (fun q => ax_ckI 94 q.1 q.2) = true := by decide +kernel
theorem ax_ck95 : ax_k95.all (fun q => ax_ckI 95 q.1 q.2) = true := by decide +kernel
theorem ax_ck96 : ax_k96.all (fun q => ax_ckI 96 q.1 q.2) = true := by decide +kernel
theorem ax_ck97 : ax_k97.all (fun q => ax_ckI 97 q.1 q.2) = true := by decide +kernel
theorem ax_ck98 : ax_k98.all (fun q => ax_ckI 98 q.1 q.2) = true := by decide +kernel
theorem ax_ck99 : ax_k99.all (fun q => ax_ckI 99 q.1 q.2) = true := by decide +kernel
theorem ax_ck100 : ax_k100.all (fun q => ax_ckI 100 q.1 q.2) = true := by decide +kernel
theorem ax_ck101 : ax_k101.all (fun q => ax_ckI 101 q.1 q.2) = true := by decide +kernel
theorem ax_ck102 : ax_k102.all (fun q => ax_ckI 102 q.1 q.2) = true := by decide +kernel
theorem ax_ck103 : ax_k103.all (fun q => ax_ckI 103 q.1 q.2) = true := by decide +kernel
theorem ax_ck104 : ax_k104.all (fun q => ax_ckI 104 q.1 q.2) = true := by decide +kernel
theorem ax_ck105 : ax_k105.all (fun q => ax_ckI 105 q.1 q.2) = true := by decide +kernel
theorem ax_ck106 : ax_k106.all (fun q => ax_ckI 106 q.1 q.2) = true := by decide +kernel
theorem ax_ck107 : ax_k107.all (fun q => ax_ckI 107 q.1 q.2) = true := by decide +kernel
theorem ax_ck108 : ax_k108.all (fun q => ax_ckI 108 q.1 q.2) = true := by decide +kernel
theorem ax_ck109 : ax_k109.all (fun q => ax_ckI 109 q.1 q.2) = true := by decide +kernel
theorem ax_ck110 : ax_k110.all (fun q => ax_ckI 110 q.1 q.2) = true := by decide +kernel
theorem ax_ck111 : ax_k111.all (fun q => ax_ckI 111 q.1 q.2) = true := by decide +kernel
theorem ax_ck112 : ax_k112.all (fun q => ax_ckI 112 q.1 q.2) = true := by decide +kernel
theorem ax_ck113 : ax_k113.all (fun q => ax_ckI 113 q.1 q.2) = true := by decide +kernel
theorem ax_ck114 : ax_k114.all (fun q => ax_ckI 114 q.1 q.2) = true := by decide +kernel
theorem ax_ck115 : ax_k115.all (fun q => ax_ckI 115 q.1 q.2) = true := by decide +kernel
theorem ax_ck116 : ax_k116.all (fun q => ax_ckI 116 q.1 q.2) = true := by decide +kernel
theorem ax_ck117 : ax_k117.all (fun q => ax_ckI 117 q.1 q.2) = true := by decide +kernel
theorem ax_ck118 : ax_k118.all (fun q => ax_ckI 118 q.1 q.2) = true := by decide +kernel
theorem ax_ck119 : ax_k119.all (fun q => ax_ckI 119 q.1 q.2) = true := by decide +kernel
theorem ax_ck120 : ax_k120.all (fun q => ax_ckI 120 q.1 q.2) = true := by decide +kernel
theorem ax_ck121 : ax_k121.all (fun q => ax_ckI 121 q.1 q.2) = true := by decide +kernel
theorem ax_ck122 : ax_k122.all (fun q => ax_ckI 122 q.1 q.2) = true := by decide +kernel
theorem ax_ck123 : ax_k123.all (fun q => ax_ckI 123 q.1 q.2) = true := by decide +kernel
theorem ax_ck124 : ax_k124.all (fun q => ax_ckI 124 q.1 q.2) = true := by decide +kernel
theorem ax_ck125 : ax_k125.all (fun q => ax_ckI 125 q.1 q.2) = true := by decide +kernel
theorem ax_ck126 : ax_k126.all (fun q => ax_ckI 126 q.1 q.2) = true := by decide +kernel
theorem ax_ck127 : ax_k127.all (fun q => ax_ckI 127 q.1 q.2) = true := by decide +kernel
theorem ax_ck128 : ax_k128.all (fun q => ax_ckI 128 q.1 q.2) = true := by decide +kernel
theorem ax_ck129 : ax_k129.all (fun q => ax_ckI 129 q.1 q.2) = true := by decide +kernel
theorem ax_ck130 : ax_k130.all (fun q => ax_ckI 130 q.1 q.2) = true := by decide +kernel
theorem ax_ck131 : ax_k131.all (fun q => ax_ckI 131 q.1 q.2) = true := by decide +kernel
theorem ax_ck132 : ax_k132.all (fun q => ax_ckI 132 q.1 q.2) = true := by decide +kernel
theorem ax_ck133 : ax_k133.all (fun q => ax_ckI 133 q.1 q.2) = true := by decide +kernel
theorem ax_ck134 : ax_k134.all (fun q => ax_ckI 134 q.1 q.2) = true := by decide +kernel
theorem ax_ck135 : ax_k135.all (fun q => ax_ckI 135 q.1 q.2) = true := by decide +kernel
theorem ax_ck136 : ax_k136.all (fun q => ax_ckI 136 q.1 q.2) = true := by decide +kernel
theorem ax_ck137 : ax_k137.all (fun q => ax_ckI 137 q.1 q.2) = true := by decide +kernel
theorem ax_ck138 : ax_k138.all (fun q => ax_ckI 138 q.1 q.2) = true := by decide +kernel
theorem ax_ck139 : ax_k139.all (fun q => ax_ckI 139 q.1 q.2) = true := by decide +kernel
theorem ax_ck140 : ax_k140.all (fun q => ax_ckI 140 q.1 q.2) = true := by decide +kernel
theorem ax_ck141 : ax_k141.all (fun q => ax_ckI 141 q.1 q.2) = true := by decide +kernel
theorem ax_ck142 : ax_k142.all (fun q => ax_ckI 142 q.1 q.2) = true := by decide +kernel
theorem ax_ck143 : ax_k143.all (fun q => ax_ckI 143 q.1 q.2) = true := by decide +kernel
theorem ax_ck144 : ax_k144.all (fun q => ax_ckI 144 q.1 q.2) = true := by decide +kernel
theorem ax_ck145 : ax_k145.all (fun q => ax_ckI 145 q.1 q.2) = true := by decide +kernel
theorem ax_ck146 : ax_k146.all (fun q => ax_ckI 146 q.1 q.2) = true := by decide +kernel
theorem ax_ck147 : ax_k147.all (fun q => ax_ckI 147 q.1 q.2) = true := by decide +kernel
theorem ax_ck148 : ax_k148.all (fun q => ax_ckI 148 q.1 q.2) = true := by decide +kernel
theorem ax_ck149 : ax_k149.all (fun q => ax_ckI 149 q.1 q.2) = true := by decide +kernel
theorem ax_ck150 : ax_k150.all (fun q => ax_ckI 150 q.1 q.2) = true := by decide +kernel
theorem ax_ck151 : ax_k151.all (fun q => ax_ckI 151 q.1 q.2) = true := by decide +kernel
theorem ax_ck152 : ax_k152.all (fun q => ax_ckI 152 q.1 q.2) = true := by decide +kernel
theorem ax_ck153 : ax_k153.all (fun q => ax_ckI 153 q.1 q.2) = true := by decide +kernel
theorem ax_ck154 : ax_k154.all (fun q => ax_ckI 154 q.1 q.2) = true := by decide +kernel
theorem ax_ck155 : ax_k155.all (fun q => ax_ckI 155 q.1 q.2) = true := by decide +kernel
theorem ax_ck156 : ax_k156.all (fun q => ax_ckI 156 q.1 q.2) = true := by decide +kernel
theorem ax_ck157 : ax_k157.all (fun q => ax_ckI 157 q.1 q.2) = true := by decide +kernel
theorem ax_ck158 : ax_k158.all (fun q => ax_ckI 158 q.1 q.2) = true := by decide +kernel
theorem ax_ck159 : ax_k159.all (fun q => ax_ckI 159 q.1 q.2) = true := by decide +kernel
theorem ax_ck160 : ax_k160.all (fun q => ax_ckI 160 q.1 q.2) = true := by decide +kernel
theorem ax_ck161 : ax_k161.all (fun q => ax_ckI 161 q.1 q.2) = true := by decide +kernel
theorem ax_ck162 : ax_k162.all (fun q => ax_ckI 162 q.1 q.2) = true := by decide +kernel
theorem ax_ck163 : ax_k163.all (fun q => ax_ckI 163 q.1 q.2) = true := by decide +kernel
theorem ax_ck164 : ax_k164.all (fun q => ax_ckI 164 q.1 q.2) = true := by decide +kernel
theorem ax_ck165 : ax_k165.all (fun q => ax_ckI 165 q.1 q.2) = true := by decide +kernel
theorem ax_ck166 : ax_k166.all (fun q => ax_ckI 166 q.1 q.2) = true := by decide +kernel
theorem ax_ck167 : ax_k167.all (fun q => ax_ckI 167 q.1 q.2) = true := by decide +kernel
theorem ax_ck168 : ax_k168.all (fun q => ax_ckI 168 q.1 q.2) = true := by decide +kernel
theorem ax_ck169 : ax_k169.all (fun q => ax_ckI 169 q.1 q.2) = true := by decide +kernel
theorem ax_ck170 : ax_k170.all (fun q => ax_ckI 170 q.1 q.2) = true := by decide +kernel
theorem ax_ck171 : ax_k171.all (fun q => ax_ckI 171 q.1 q.2) = true := by decide +kernel
theorem ax_ck172 : ax_k172.all (fun q => ax_ckI 172 q.1 q.2) = true := by decide +kernel
theorem ax_ck173 : ax_k173.all (fun q => ax_ckI 173 q.1 q.2) = true := by decide +kernel
theorem ax_ck174 : ax_k174.all (fun q => ax_ckI 174 q.1 q.2) = true := by decide +kernel
theorem ax_ck175 : ax_k175.all (fun q => ax_ckI 175 q.1 q.2) = true := by decide +kernel
theorem ax_ck176 : ax_k176.all (fun q => ax_ckI 176 q.1 q.2) = true := by decide +kernel
theorem ax_ck177 : ax_k177.all (fun q => ax_ckI 177 q.1 q.2) = true := by decide +kernel
theorem ax_ck178 : ax_k178.all (fun q => ax_ckI 178 q.1 q.2) = true := by decide +kernel
theorem ax_ck179 : ax_k179.all (fun q => ax_ckI 179 q.1 q.2) = true := by decide +kernel
theorem ax_ck180 : ax_k180.all (fun q => ax_ckI 180 q.1 q.2) = true := by decide +kernel
theorem ax_ck181 : ax_k181.all (fun q => ax_ckI 181 q.1 q.2) = true := by decide +kernel
theorem ax_cka20 : ∀ mi, mi < 20 → ax_ckT mi := (lt_s (lt_s (lt_s (lt_s (lt_s (lt_s (lt_s (lt_s (lt_s (lt_s (lt_s (lt_s (lt_s (lt_s (lt_s (lt_s (lt_s (lt_s (lt_s (lt_s lt_0 ax_ck0) ax_ck1) ax_ck2) ax_ck3) ax_ck4) ax_ck5) ax_ck6) ax_ck7) ax_ck8) ax_ck9) ax_ck10) ax_ck11) ax_ck12) ax_ck13) ax_ck14) ax_ck15) ax_ck16) ax_ck17) ax_ck18) ax_ck19)
theorem ax_cka40 : ∀ mi, mi < 40 → ax_ckT mi := (lt_s (lt_s (lt_s (lt_s (lt_s (lt_s (lt_s (lt_s (lt_s (lt_s (lt_s (lt_s (lt_s (lt_s (lt_s (lt_s (lt_s (lt_s (lt_s (lt_s ax_cka20 ax_ck20) ax_ck21) ax_ck22) ax_ck23) ax_ck24) ax_ck25) ax_ck26) ax_ck27) ax_ck28) ax_ck29) ax_ck30) ax_ck31) ax_ck32) ax_ck33) ax_ck34) ax_ck35) ax_ck36) ax_ck37) ax_ck38) ax_ck39)
theorem ax_cka60 : ∀ mi, mi < 60 → ax_ckT mi := (lt_s (lt_s (lt_s (lt_s (lt_s (lt_s (lt_s (lt_s (lt_s (lt_s (lt_s (lt_s (lt_s (lt_s (lt_s (lt_s (lt_s (lt_s (lt_s (lt_s ax_cka40 ax_ck40) ax_ck41) ax_ck42) ax_ck43) ax_ck44) ax_ck45) ax_ck46) ax_ck47) ax_ck48) ax_ck49) ax_ck50) ax_ck51) ax_ck52) ax_ck53) ax_ck54) ax_ck55) ax_ck56) ax_ck57) ax_ck58) ax_ck59)
theorem ax_cka80 : ∀ mi, mi < 80 → ax_ckT mi := (lt_s (lt_s (lt_s (lt_s (lt_s (lt_s (lt_s (lt_s (lt_s (lt_s (lt_s (lt_s (lt_s (lt_s (lt_s (lt_s (lt_s (lt_s (lt_s (lt_s ax_cka60 ax_ck60) ax_ck61) ax_ck62) ax_ck63) ax_ck64) ax_ck65) ax_ck66) ax_ck67) ax_ck68) ax_ck69) ax_ck70) ax_ck71) ax_ck72) ax_ck73) ax_ck74) ax_ck75) ax_ck76) ax_ck77) ax_ck78) ax_ck79)
theorem ax_cka100 : ∀ mi, mi < 100 → ax_ckT mi := (lt_s (lt_s (lt_s (lt_s (lt_s (lt_s (lt_s (lt_s (lt_s (lt_s (lt_s (lt_s (lt_s (lt_s (lt_s (lt_s (lt_s (lt_s (lt_s (lt_s ax_cka80 ax_ck80) ax_ck81) ax_ck82) ax_ck83) ax_ck84) ax_ck85) ax_ck86) ax_ck87) ax_ck88) ax_ck89) ax_ck90) ax_ck91) ax_ck92) ax_ck93) ax_ck94) ax_ck95) ax_ck96) ax_ck97) ax_ck98) ax_ck99)
theorem ax_cka120 : ∀ mi, mi < 120 → ax_ckT mi := (lt_s (lt_s (lt_s (lt_s (lt_s (lt_s (lt_s (lt_s (lt_s (lt_s (lt_s (lt_s (lt_s (lt_s (lt_s (lt_s (lt_s (lt_s (lt_s (lt_s ax_cka100 ax_ck100) ax_ck101) ax_ck102) ax_ck103) ax_ck104) ax_ck105) ax_ck106) ax_ck107) ax_ck108) ax_ck109) ax_ck110) ax_ck111) ax_ck112) ax_ck113) ax_ck114) ax_ck115) ax_ck116) ax_ck117) ax_ck118) ax_ck119)
theorem ax_cka140 : ∀ mi, mi < 140 → ax_ckT mi := (lt_s (lt_s (lt_s (lt_s (lt_s (lt_s (lt_s (lt_s (lt_s (lt_s (lt_s (lt_s (lt_s (lt_s (lt_s (lt_s (lt_s (lt_s (lt_s (lt_s ax_cka120 ax_ck120) ax_ck121) ax_ck122) ax_ck123) ax_ck124) ax_ck125) ax_ck126) ax_ck127) ax_ck128) ax_ck129) ax_ck130) ax_ck131) ax_ck132) ax_ck133) ax_ck134) ax_ck135) ax_ck136) ax_ck137) ax_ck138) ax_ck139)
theorem ax_cka160 : ∀ mi, mi < 160 → ax_ckT mi := (lt_s (lt_s (lt_s (lt_s (lt_s (lt_s (lt_s (lt_s (lt_s (lt_s (lt_s (lt_s (lt_s (lt_s (lt_s (lt_s (lt_s (lt_s (lt_s (lt_s ax_cka140 ax_ck140) ax_ck141) ax_ck142) ax_ck143) ax_ck144) ax_ck145) ax_ck146) ax_ck147) ax_ck148) ax_ck149) ax_ck150) ax_ck151) ax_ck152) ax_ck153) ax_ck154) ax_ck155) ax_ck156) ax_ck157) ax_ck158) ax_ck159)
theorem ax_cka180 : ∀ mi, mi < 180 → ax_ckT mi := (lt_s (lt_s (lt_s (lt_s (lt_s (lt_s (lt_s (lt_s (lt_s (lt_s (lt_s (lt_s (lt_s (lt_s (lt_s (lt_s (lt_s (lt_s (lt_s (lt_s ax_cka160 ax_ck160) ax_ck161) ax_ck162) ax_ck163) ax_ck164) ax_ck165) ax_ck166) ax_ck167) ax_ck168) ax_ck169) ax_ck170) ax_ck171) ax_ck172) ax_ck173) ax_ck174) ax_ck175) ax_ck176) ax_ck177) ax_ck178) ax_ck179)
theorem ax_cka182 : ∀ mi, mi < 182 → ax_ckT mi := (lt_s (lt_s ax_cka180 ax_ck180) ax_ck181)
theorem ax_ck_all {mi : Nat} (h : mi < ax_NM) : ax_ckT mi := ax_cka182 mi h
