/-- worlds by their leaves -/
def quT (x0 : Nat) (x1 : Value) (x2 : Nat) (x3 x4 x5 x6 x7 x8 : Value) (x9 : Nat) (x10 x11 x12 x13 x14 x15 x16 x17 : Value) (x18 : Int32) (x19 : Value) (x20 : Nat) (x21 x22 x23 x24 x25 x26 x27 x28 x29 : Value) (x30 : Int32) (x31 x32 : Value) (x33 x34 : Nat) (x35 : Value) (x36 : Nat) (x37 : Value) (x38 : Nat) (x39 : ClassId) (x40 : NI) : va_W := [(x0, .inr (10, [x1, .ref x2, x3, x4, x5, x6, x7, x8, .ref x9, x10, x11, x12, x13, x14, x15, x16, x17, .int x18, x19])), (x20, .inr (2, [x21, x22, x23, x24, x25, x26, x27, x28, x29, .int x30, x31, x32])), (x33, .inr (1, [.ref x34, x35, .ref x36, x37])), (x38, .inl (x39, 64, .inl x40))]
def qSm (x0 x1 : Nat) (x2 : Value) (x3 : Nat) (x4 : Value) (x5 : Nat) (x6 : ClassId) (x7 : NI) : va_W := [(x0, .inr (1, [.ref x1, x2, .ref x3, x4])), (x5, .inl (x6, 64, .inl x7))]
def qVZ (x0 : Nat) (x1 : Value) (x2 : Nat) (x3 x4 x5 x6 x7 x8 : Value) (x9 : Nat) (x10 x11 x12 x13 x14 x15 x16 x17 : Value) (x18 : Int32) (x19 : Value) (x20 : Nat) (x21 x22 x23 x24 x25 x26 x27 x28 x29 : Value) (x30 : Int32) (x31 x32 : Value) : va_W := [(x0, .inr (10, [x1, .ref x2, x3, x4, x5, x6, x7, x8, .ref x9, x10, x11, x12, x13, x14, x15, x16, x17, .int x18, x19])), (x20, .inr (2, [x21, x22, x23, x24, x25, x26, x27, x28, x29, .int x30, x31, x32]))]
def qv4 (x0 x1 : Nat) (x2 : Value) (x3 : Nat) (x4 : Value) (x5 : Nat) (x6 x7 x8 x9 x10 x11 x12 x13 x14 : Value) (x15 : Int32) (x16 x17 : Value) (x18 : Nat) (x19 : ClassId) (x20 : NI) : va_W := [(x0, .inr (1, [.ref x1, x2, .ref x3, x4])), (x5, .inr (2, [x6, x7, x8, x9, x10, x11, x12, x13, x14, .int x15, x16, x17])), (x18, .inl (x19, 64, .inl x20))]
def qbcv (x0 : Nat) (x1 : Value) (x2 : Nat) (x3 x4 x5 x6 x7 x8 : Value) (x9 : Nat) (x10 x11 x12 x13 x14 x15 x16 x17 : Value) (x18 : Int32) (x19 : Value) : va_W := [(x0, .inr (10, [x1, .ref x2, x3, x4, x5, x6, x7, x8, .ref x9, x10, x11, x12, x13, x14, x15, x16, x17, .int x18, x19]))]
def qYG (x0 : Nat) (x1 : Value) (x2 : Nat) (x3 x4 x5 x6 x7 x8 : Value) (x9 : Nat) (x10 x11 x12 x13 x14 x15 x16 x17 : Value) (x18 : Int32) (x19 : Value) (x20 : Nat) (x21 x22 x23 x24 x25 x26 x27 x28 x29 : Value) (x30 : Int32) (x31 x32 : Value) (x33 x34 : Nat) (x35 : Value) (x36 : Nat) (x37 : Value) (x38 : Nat) (x39 : ClassId) (x40 : NI) (x41 : Nat) (x42 : ClassId) (x43 : Nat) (x44 : Nat → Int64) : va_W := [(x0, .inr (10, [x1, .ref x2, x3, x4, x5, x6, x7, x8, .ref x9, x10, x11, x12, x13, x14, x15, x16, x17, .int x18, x19])), (x20, .inr (2, [x21, x22, x23, x24, x25, x26, x27, x28, x29, .int x30, x31, x32])), (x33, .inr (1, [.ref x34, x35, .ref x36, x37])), (x38, .inl (x39, 64, .inl x40)), (x41, .inl (x42, x43, .inr (.inl x44)))]
def qSj (x0 : Nat) (x1 : Value) (x2 : Nat) (x3 x4 x5 x6 x7 x8 x9 x10 x11 x12 x13 x14 x15 x16 x17 : Value) (x18 : Int32) (x19 : Value) (x20 : Nat) (x21 x22 x23 x24 x25 x26 x27 x28 : Value) (x29 : Int32) (x30 x31 x32 : Value) : va_W := [(x0, .inr (10, [x1, .ref x2, x3, x4, x5, x6, x7, x8, x9, x10, x11, x12, x13, x14, x15, x16, x17, .int x18, x19])), (x20, .inr (2, [x21, x22, x23, x24, x25, x26, x27, x28, .int x29, x30, x31, x32]))]
def qayk (x0 x1 x2 : Nat) (x3 x4 x5 x6 x7 x8 x9 x10 x11 x12 : Value) (x13 : Nat) (x14 : ClassId) (x15 : NI) (x16 : Nat) (x17 : ClassId) (x18 : NI) : va_W := [(x0, .inr (2, [.ref x1, .ref x2, x3, x4, x5, x6, x7, x8, x9, x10, x11, x12])), (x13, .inl (x14, 8, .inl x15)), (x16, .inl (x17, 8, .inl x18))]
def qa5U (x0 : Nat) (x1 x2 x3 x4 x5 x6 x7 x8 x9 : Value) (x10 : Int32) (x11 x12 : Value) : va_W := [(x0, .inr (2, [x1, x2, x3, x4, x5, x6, x7, x8, x9, .int x10, x11, x12]))]
def qwg (x0 : Nat) (x1 x2 x3 : Value) (x4 : Nat) (x5 : Value) (x6 : Nat) (x7 : ClassId) (x8 : NI) : va_W := [(x0, .inr (4, [x1, x2, x3, .ref x4, x5])), (x6, .inl (x7, 8, .inl x8))]
def qJA (x0 x1 : Nat) (x2 x3 x4 : Value) (x5 : Nat) (x6 : ClassId) (x7 : NI) : va_W := [(x0, .inr (1, [.ref x1, x2, x3, x4])), (x5, .inl (x6, 64, .inl x7))]
def qnx (x0 x1 x2 x3 x4 : Nat) (x5 : Int32) (x6 : Nat) (x7 : ClassId) (x8 : NI) (x9 : Nat) (x10 : ClassId) (x11 : NI) (x12 : Nat) (x13 : ClassId) (x14 : NI) (x15 : Nat) (x16 : ClassId) (x17 : NI) : va_W := [(x0, .inr (4, [.ref x1, .ref x2, .ref x3, .ref x4, .int x5])), (x6, .inl (x7, 150, .inl x8)), (x9, .inl (x10, 150, .inl x11)), (x12, .inl (x13, 150, .inl x14)), (x15, .inl (x16, 8, .inl x17))]
def qyU (x0 x1 : Nat) (x2 : Value) (x3 x4 x5 : Nat) (x6 : ClassId) (x7 : NI) (x8 : Nat) (x9 x10 x11 x12 x13 x14 x15 x16 x17 : Value) (x18 : Int32) (x19 x20 : Value) (x21 x22 x23 x24 x25 : Nat) (x26 : Int32) (x27 : Nat) (x28 : ClassId) (x29 : NI) (x30 : Nat) (x31 : ClassId) (x32 : NI) (x33 : Nat) (x34 : ClassId) (x35 : NI) (x36 : Nat) (x37 : ClassId) (x38 : NI) : va_W := [(x0, .inr (1, [.ref x1, x2, .ref x3, .ref x4])), (x5, .inl (x6, 64, .inl x7)), (x8, .inr (2, [x9, x10, x11, x12, x13, x14, x15, x16, x17, .int x18, x19, x20])), (x21, .inr (4, [.ref x22, .ref x23, .ref x24, .ref x25, .int x26])), (x27, .inl (x28, 8, .inl x29)), (x30, .inl (x31, 150, .inl x32)), (x33, .inl (x34, 150, .inl x35)), (x36, .inl (x37, 150, .inl x38))]
def qDB (x0 x1 : Nat) (x2 : Value) (x3 x4 x5 : Nat) (x6 : ClassId) (x7 : NI) : va_W := [(x0, .inr (1, [.ref x1, x2, .ref x3, .ref x4])), (x5, .inl (x6, 64, .inl x7))]
def qaAd (x0 : Nat) (x1 x2 x3 x4 x5 x6 x7 x8 x9 : Value) (x10 : Int32) (x11 x12 : Value) (x13 x14 x15 x16 x17 : Nat) (x18 : Int32) (x19 : Nat) (x20 : ClassId) (x21 : NI) (x22 : Nat) (x23 : ClassId) (x24 : NI) (x25 : Nat) (x26 : ClassId) (x27 : NI) (x28 : Nat) (x29 : ClassId) (x30 : NI) : va_W := [(x0, .inr (2, [x1, x2, x3, x4, x5, x6, x7, x8, x9, .int x10, x11, x12])), (x13, .inr (4, [.ref x14, .ref x15, .ref x16, .ref x17, .int x18])), (x19, .inl (x20, 8, .inl x21)), (x22, .inl (x23, 150, .inl x24)), (x25, .inl (x26, 150, .inl x27)), (x28, .inl (x29, 150, .inl x30))]
def qakS (x0 x1 : Nat) (x2 : Value) (x3 x4 x5 : Nat) (x6 x7 x8 x9 x10 x11 x12 x13 x14 : Value) (x15 : Int32) (x16 x17 : Value) (x18 : Nat) (x19 : ClassId) (x20 : NI) : va_W := [(x0, .inr (1, [.ref x1, x2, .ref x3, .ref x4])), (x5, .inr (2, [x6, x7, x8, x9, x10, x11, x12, x13, x14, .int x15, x16, x17])), (x18, .inl (x19, 64, .inl x20))]
def qaXH (x0 x1 x2 x3 x4 : Nat) (x5 : Int32) (x6 : Nat) (x7 : ClassId) (x8 : NI) (x9 : Nat) (x10 : ClassId) (x11 : NI) (x12 : Nat) (x13 : ClassId) (x14 : NI) (x15 : Nat) (x16 : ClassId) (x17 : NI) : va_W := [(x0, .inr (4, [.ref x1, .ref x2, .ref x3, .ref x4, .int x5])), (x6, .inl (x7, 8, .inl x8)), (x9, .inl (x10, 150, .inl x11)), (x12, .inl (x13, 150, .inl x14)), (x15, .inl (x16, 150, .inl x17))]
def qaRm (x0 x1 x2 x3 x4 : Nat) (x5 : Int32) (x6 : Nat) (x7 : ClassId) (x8 : NI) : va_W := [(x0, .inr (4, [.ref x1, .ref x2, .ref x3, .ref x4, .int x5])), (x6, .inl (x7, 8, .inl x8))]
def qa5V (x0 x1 : Nat) (x2 : Value) (x3 x4 x5 : Nat) (x6 : ClassId) (x7 : NI) (x8 : Nat) (x9 x10 x11 x12 x13 x14 x15 x16 x17 : Value) (x18 : Int32) (x19 x20 : Value) (x21 : Nat) (x22 : ClassId) (x23 : NI) (x24 : Nat) (x25 : ClassId) (x26 : NI) (x27 : Nat) (x28 : ClassId) (x29 : NI) : va_W := [(x0, .inr (1, [.ref x1, x2, .ref x3, .ref x4])), (x5, .inl (x6, 64, .inl x7)), (x8, .inr (2, [x9, x10, x11, x12, x13, x14, x15, x16, x17, .int x18, x19, x20])), (x21, .inl (x22, 150, .inl x23)), (x24, .inl (x25, 150, .inl x26)), (x27, .inl (x28, 150, .inl x29))]
def qMt (x0 x1 : Nat) (x2 : Value) (x3 x4 x5 : Nat) (x6 : ClassId) (x7 : NI) (x8 x9 x10 : Nat) (x11 x12 x13 x14 x15 x16 x17 : Value) (x18 : Int32) (x19 x20 : Value) (x21 : Nat) (x22 : ClassId) (x23 : NI) (x24 : Nat) (x25 : ClassId) (x26 : NI) (x27 x28 x29 x30 x31 : Nat) (x32 : Int32) (x33 : Nat) (x34 : ClassId) (x35 : NI) (x36 : Nat) (x37 : ClassId) (x38 : NI) (x39 : Nat) (x40 : ClassId) (x41 : NI) (x42 : Nat) (x43 : ClassId) (x44 : NI) : va_W := [(x0, .inr (1, [.ref x1, x2, .ref x3, .ref x4])), (x5, .inl (x6, 64, .inl x7)), (x8, .inr (2, [.ref x9, .ref x10, x11, x12, x13, x14, x15, x16, x17, .int x18, x19, x20])), (x21, .inl (x22, 8, .inl x23)), (x24, .inl (x25, 8, .inl x26)), (x27, .inr (4, [.ref x28, .ref x29, .ref x30, .ref x31, .int x32])), (x33, .inl (x34, 8, .inl x35)), (x36, .inl (x37, 150, .inl x38)), (x39, .inl (x40, 150, .inl x41)), (x42, .inl (x43, 150, .inl x44))]
def qaYx (x0 x1 x2 : Nat) (x3 x4 x5 x6 x7 x8 x9 : Value) (x10 : Int32) (x11 x12 : Value) (x13 : Nat) (x14 : ClassId) (x15 : NI) (x16 : Nat) (x17 : ClassId) (x18 : NI) (x19 x20 x21 x22 x23 : Nat) (x24 : Int32) (x25 : Nat) (x26 : ClassId) (x27 : NI) (x28 : Nat) (x29 : ClassId) (x30 : NI) (x31 : Nat) (x32 : ClassId) (x33 : NI) (x34 : Nat) (x35 : ClassId) (x36 : NI) : va_W := [(x0, .inr (2, [.ref x1, .ref x2, x3, x4, x5, x6, x7, x8, x9, .int x10, x11, x12])), (x13, .inl (x14, 8, .inl x15)), (x16, .inl (x17, 8, .inl x18)), (x19, .inr (4, [.ref x20, .ref x21, .ref x22, .ref x23, .int x24])), (x25, .inl (x26, 8, .inl x27)), (x28, .inl (x29, 150, .inl x30)), (x31, .inl (x32, 150, .inl x33)), (x34, .inl (x35, 150, .inl x36))]
def qa5j (x0 x1 x2 : Nat) (x3 x4 x5 x6 x7 x8 x9 : Value) (x10 : Int32) (x11 x12 : Value) (x13 : Nat) (x14 : ClassId) (x15 : NI) (x16 : Nat) (x17 : ClassId) (x18 : NI) : va_W := [(x0, .inr (2, [.ref x1, .ref x2, x3, x4, x5, x6, x7, x8, x9, .int x10, x11, x12])), (x13, .inl (x14, 8, .inl x15)), (x16, .inl (x17, 8, .inl x18))]
def qa2S (x0 x1 : Nat) (x2 : Value) (x3 x4 x5 : Nat) (x6 : ClassId) (x7 : NI) (x8 x9 x10 : Nat) (x11 x12 x13 x14 x15 x16 x17 : Value) (x18 : Int32) (x19 x20 : Value) (x21 x22 x23 x24 x25 : Nat) (x26 : Int32) (x27 : Nat) (x28 : ClassId) (x29 : NI) (x30 : Nat) (x31 : ClassId) (x32 : NI) (x33 : Nat) (x34 : ClassId) (x35 : NI) (x36 : Nat) (x37 : ClassId) (x38 : NI) : va_W := [(x0, .inr (1, [.ref x1, x2, .ref x3, .ref x4])), (x5, .inl (x6, 64, .inl x7)), (x8, .inr (2, [.ref x9, .ref x10, x11, x12, x13, x14, x15, x16, x17, .int x18, x19, x20])), (x21, .inr (4, [.ref x22, .ref x23, .ref x24, .ref x25, .int x26])), (x27, .inl (x28, 8, .inl x29)), (x30, .inl (x31, 150, .inl x32)), (x33, .inl (x34, 150, .inl x35)), (x36, .inl (x37, 150, .inl x38))]
def qFA (x0 : Nat) (x1 : Value) (x2 : Nat) (x3 x4 x5 x6 x7 x8 : Value) (x9 : Nat) (x10 x11 x12 x13 x14 x15 x16 x17 : Value) (x18 : Int32) (x19 : Value) (x20 x21 x22 : Nat) (x23 x24 x25 x26 x27 x28 : Value) (x29 x30 : Int32) (x31 x32 : Value) (x33 x34 : Nat) (x35 : Value) (x36 x37 x38 : Nat) (x39 : ClassId) (x40 : NI) (x41 : Nat) (x42 : ClassId) (x43 : NI) (x44 : Nat) (x45 : ClassId) (x46 : NI) (x47 x48 x49 x50 x51 : Nat) (x52 : Int32) (x53 : Nat) (x54 : ClassId) (x55 : NI) (x56 : Nat) (x57 : ClassId) (x58 : NI) (x59 : Nat) (x60 : ClassId) (x61 : NI) (x62 : Nat) (x63 : ClassId) (x64 : NI) : va_W := [(x0, .inr (10, [x1, .ref x2, x3, x4, x5, x6, x7, x8, .ref x9, x10, x11, x12, x13, x14, x15, x16, x17, .int x18, x19])), (x20, .inr (2, [.ref x21, .ref x22, x23, x24, x25, x26, x27, x28, .int x29, .int x30, x31, x32])), (x33, .inr (1, [.ref x34, x35, .ref x36, .ref x37])), (x38, .inl (x39, 64, .inl x40)), (x41, .inl (x42, 8, .inl x43)), (x44, .inl (x45, 8, .inl x46)), (x47, .inr (4, [.ref x48, .ref x49, .ref x50, .ref x51, .int x52])), (x53, .inl (x54, 8, .inl x55)), (x56, .inl (x57, 150, .inl x58)), (x59, .inl (x60, 150, .inl x61)), (x62, .inl (x63, 150, .inl x64))]
def qaif (x0 : Nat) (x1 : Value) (x2 : Nat) (x3 x4 x5 x6 x7 x8 : Value) (x9 : Nat) (x10 x11 x12 x13 x14 x15 x16 x17 : Value) (x18 : Int32) (x19 : Value) (x20 x21 x22 : Nat) (x23 x24 x25 x26 x27 x28 : Value) (x29 x30 : Int32) (x31 x32 : Value) : va_W := [(x0, .inr (10, [x1, .ref x2, x3, x4, x5, x6, x7, x8, .ref x9, x10, x11, x12, x13, x14, x15, x16, x17, .int x18, x19])), (x20, .inr (2, [.ref x21, .ref x22, x23, x24, x25, x26, x27, x28, .int x29, .int x30, x31, x32]))]
def qaRW (x0 x1 : Nat) (x2 : Value) (x3 x4 x5 : Nat) (x6 : ClassId) (x7 : NI) (x8 : Nat) (x9 : ClassId) (x10 : NI) (x11 : Nat) (x12 : ClassId) (x13 : NI) (x14 x15 x16 x17 x18 : Nat) (x19 : Int32) (x20 : Nat) (x21 : ClassId) (x22 : NI) (x23 : Nat) (x24 : ClassId) (x25 : NI) (x26 : Nat) (x27 : ClassId) (x28 : NI) (x29 : Nat) (x30 : ClassId) (x31 : NI) : va_W := [(x0, .inr (1, [.ref x1, x2, .ref x3, .ref x4])), (x5, .inl (x6, 64, .inl x7)), (x8, .inl (x9, 8, .inl x10)), (x11, .inl (x12, 8, .inl x13)), (x14, .inr (4, [.ref x15, .ref x16, .ref x17, .ref x18, .int x19])), (x20, .inl (x21, 8, .inl x22)), (x23, .inl (x24, 150, .inl x25)), (x26, .inl (x27, 150, .inl x28)), (x29, .inl (x30, 150, .inl x31))]
def qa6N (x0 x1 : Nat) (x2 : Value) (x3 x4 x5 : Nat) (x6 : ClassId) (x7 : NI) (x8 x9 x10 : Nat) (x11 x12 x13 x14 x15 x16 : Value) (x17 x18 : Int32) (x19 x20 : Value) (x21 : Nat) (x22 : ClassId) (x23 : NI) (x24 : Nat) (x25 : ClassId) (x26 : NI) (x27 x28 x29 x30 x31 : Nat) (x32 : Int32) (x33 : Nat) (x34 : ClassId) (x35 : NI) (x36 : Nat) (x37 : ClassId) (x38 : NI) (x39 : Nat) (x40 : ClassId) (x41 : NI) (x42 : Nat) (x43 : ClassId) (x44 : NI) : va_W := [(x0, .inr (1, [.ref x1, x2, .ref x3, .ref x4])), (x5, .inl (x6, 64, .inl x7)), (x8, .inr (2, [.ref x9, .ref x10, x11, x12, x13, x14, x15, x16, .int x17, .int x18, x19, x20])), (x21, .inl (x22, 8, .inl x23)), (x24, .inl (x25, 8, .inl x26)), (x27, .inr (4, [.ref x28, .ref x29, .ref x30, .ref x31, .int x32])), (x33, .inl (x34, 8, .inl x35)), (x36, .inl (x37, 150, .inl x38)), (x39, .inl (x40, 150, .inl x41)), (x42, .inl (x43, 150, .inl x44))]
def qIj (x0 : Nat) (x1 : Value) (x2 : Nat) (x3 : Value) (x4 : Nat) (x5 x6 x7 x8 : Value) (x9 : Nat) (x10 x11 x12 x13 x14 x15 x16 x17 : Value) (x18 : Int32) (x19 : Value) (x20 x21 x22 : Nat) (x23 x24 x25 x26 x27 x28 : Value) (x29 x30 : Int32) (x31 x32 : Value) (x33 x34 : Nat) (x35 : Value) (x36 x37 x38 : Nat) (x39 : ClassId) (x40 : NI) (x41 : Nat) (x42 : ClassId) (x43 : NI) (x44 : Nat) (x45 : ClassId) (x46 : NI) (x47 x48 x49 x50 x51 : Nat) (x52 : Int32) (x53 : Nat) (x54 : ClassId) (x55 : NI) (x56 : Nat) (x57 : ClassId) (x58 : NI) (x59 : Nat) (x60 : ClassId) (x61 : NI) (x62 : Nat) (x63 : ClassId) (x64 : NI) (x65 : Nat) (x66 : ClassId) (x67 : Nat) (x68 : Nat → Int64) : va_W := [(x0, .inr (10, [x1, .ref x2, x3, .ref x4, x5, x6, x7, x8, .ref x9, x10, x11, x12, x13, x14, x15, x16, x17, .int x18, x19])), (x20, .inr (2, [.ref x21, .ref x22, x23, x24, x25, x26, x27, x28, .int x29, .int x30, x31, x32])), (x33, .inr (1, [.ref x34, x35, .ref x36, .ref x37])), (x38, .inl (x39, 64, .inl x40)), (x41, .inl (x42, 8, .inl x43)), (x44, .inl (x45, 8, .inl x46)), (x47, .inr (4, [.ref x48, .ref x49, .ref x50, .ref x51, .int x52])), (x53, .inl (x54, 8, .inl x55)), (x56, .inl (x57, 150, .inl x58)), (x59, .inl (x60, 150, .inl x61)), (x62, .inl (x63, 150, .inl x64)), (x65, .inl (x66, x67, .inr (.inl x68)))]
def qaXZ (x0 : Nat) (x1 : Value) (x2 : Nat) (x3 : Value) (x4 : Nat) (x5 x6 x7 x8 : Value) (x9 : Nat) (x10 x11 x12 x13 x14 x15 x16 x17 : Value) (x18 : Int32) (x19 : Value) (x20 x21 x22 : Nat) (x23 x24 x25 x26 x27 x28 : Value) (x29 x30 : Int32) (x31 x32 : Value) (x33 x34 : Nat) (x35 : Value) (x36 x37 x38 : Nat) (x39 : ClassId) (x40 : NI) (x41 : Nat) (x42 : ClassId) (x43 : NI) (x44 : Nat) (x45 : ClassId) (x46 : NI) (x47 x48 x49 x50 x51 : Nat) (x52 : Int32) (x53 : Nat) (x54 : ClassId) (x55 : NI) (x56 : Nat) (x57 : ClassId) (x58 : NI) (x59 : Nat) (x60 : ClassId) (x61 : NI) (x62 : Nat) (x63 : ClassId) (x64 : NI) : va_W := [(x0, .inr (10, [x1, .ref x2, x3, .ref x4, x5, x6, x7, x8, .ref x9, x10, x11, x12, x13, x14, x15, x16, x17, .int x18, x19])), (x20, .inr (2, [.ref x21, .ref x22, x23, x24, x25, x26, x27, x28, .int x29, .int x30, x31, x32])), (x33, .inr (1, [.ref x34, x35, .ref x36, .ref x37])), (x38, .inl (x39, 64, .inl x40)), (x41, .inl (x42, 8, .inl x43)), (x44, .inl (x45, 8, .inl x46)), (x47, .inr (4, [.ref x48, .ref x49, .ref x50, .ref x51, .int x52])), (x53, .inl (x54, 8, .inl x55)), (x56, .inl (x57, 150, .inl x58)), (x59, .inl (x60, 150, .inl x61)), (x62, .inl (x63, 150, .inl x64))]
def qTB (x0 : Nat) (x1 : Value) (x2 x3 : Nat) (x4 : Value) (x5 : Nat) (x6 x7 x8 x9 x10 x11 x12 x13 x14 : Value) (x15 : Int32) (x16 x17 : Value) (x18 : Nat) (x19 : ClassId) (x20 : NI) : va_W := [(x0, .inr (1, [x1, .ref x2, .ref x3, x4])), (x5, .inr (2, [x6, x7, x8, x9, x10, x11, x12, x13, x14, .int x15, x16, x17])), (x18, .inl (x19, 6, .inl x20))]
def qrD (x0 x1 x2 x3 : Nat) (x4 : Value) (x5 : Nat) (x6 x7 x8 x9 x10 x11 x12 x13 x14 : Value) (x15 : Int32) (x16 x17 : Value) (x18 : Nat) (x19 : ClassId) (x20 : NI) (x21 : Nat) (x22 : ClassId) (x23 : NI) : va_W := [(x0, .inr (1, [.ref x1, .ref x2, .ref x3, x4])), (x5, .inr (2, [x6, x7, x8, x9, x10, x11, x12, x13, x14, .int x15, x16, x17])), (x18, .inl (x19, 64, .inl x20)), (x21, .inl (x22, 6, .inl x23))]
def qa38 (x0 x1 x2 x3 : Nat) (x4 : Value) (x5 : Nat) (x6 x7 x8 x9 x10 x11 x12 x13 x14 : Value) (x15 : Int32) (x16 x17 : Value) (x18 : Nat) (x19 : ClassId) (x20 : NI) : va_W := [(x0, .inr (1, [.ref x1, .ref x2, .ref x3, x4])), (x5, .inr (2, [x6, x7, x8, x9, x10, x11, x12, x13, x14, .int x15, x16, x17])), (x18, .inl (x19, 6, .inl x20))]
def qa8V (x0 x1 x2 x3 : Nat) (x4 : Value) (x5 : Nat) (x6 x7 x8 x9 x10 x11 x12 x13 x14 : Value) (x15 : Int32) (x16 x17 : Value) (x18 : Nat) (x19 : ClassId) (x20 : NI) : va_W := [(x0, .inr (1, [.ref x1, .ref x2, .ref x3, x4])), (x5, .inr (2, [x6, x7, x8, x9, x10, x11, x12, x13, x14, .int x15, x16, x17])), (x18, .inl (x19, 64, .inl x20))]
def qwh (x0 : Nat) (x1 : Value) (x2 : Nat) (x3 x4 x5 x6 x7 x8 : Value) (x9 : Nat) (x10 x11 x12 x13 x14 x15 x16 x17 : Value) (x18 x19 : Int32) (x20 : Nat) (x21 x22 x23 x24 x25 x26 x27 x28 x29 : Value) (x30 : Int32) (x31 x32 : Value) (x33 x34 x35 x36 : Nat) (x37 : Value) (x38 : Nat) (x39 : ClassId) (x40 : NI) (x41 : Nat) (x42 : ClassId) (x43 : NI) : va_W := [(x0, .inr (10, [x1, .ref x2, x3, x4, x5, x6, x7, x8, .ref x9, x10, x11, x12, x13, x14, x15, x16, x17, .int x18, .int x19])), (x20, .inr (2, [x21, x22, x23, x24, x25, x26, x27, x28, x29, .int x30, x31, x32])), (x33, .inr (1, [.ref x34, .ref x35, .ref x36, x37])), (x38, .inl (x39, 64, .inl x40)), (x41, .inl (x42, 6, .inl x43))]
def qaWg (x0 : Nat) (x1 : Value) (x2 : Nat) (x3 x4 x5 x6 x7 x8 : Value) (x9 : Nat) (x10 x11 x12 x13 x14 x15 x16 x17 : Value) (x18 x19 : Int32) (x20 : Nat) (x21 x22 x23 x24 x25 x26 x27 x28 x29 : Value) (x30 : Int32) (x31 x32 : Value) : va_W := [(x0, .inr (10, [x1, .ref x2, x3, x4, x5, x6, x7, x8, .ref x9, x10, x11, x12, x13, x14, x15, x16, x17, .int x18, .int x19])), (x20, .inr (2, [x21, x22, x23, x24, x25, x26, x27, x28, x29, .int x30, x31, x32]))]
def qa6l (x0 x1 x2 x3 : Nat) (x4 : Value) (x5 : Nat) (x6 : ClassId) (x7 : NI) (x8 : Nat) (x9 : ClassId) (x10 : NI) : va_W := [(x0, .inr (1, [.ref x1, .ref x2, .ref x3, x4])), (x5, .inl (x6, 64, .inl x7)), (x8, .inl (x9, 6, .inl x10))]
def q9T (x0 : Nat) (x1 : Value) (x2 : Nat) (x3 x4 x5 x6 x7 x8 : Value) (x9 : Nat) (x10 x11 x12 x13 x14 x15 x16 x17 : Value) (x18 x19 : Int32) : va_W := [(x0, .inr (10, [x1, .ref x2, x3, x4, x5, x6, x7, x8, .ref x9, x10, x11, x12, x13, x14, x15, x16, x17, .int x18, .int x19]))]
def qaNa (x0 : Nat) (x1 x2 x3 x4 x5 x6 x7 x8 x9 : Value) (x10 : Int32) (x11 x12 : Value) (x13 x14 x15 x16 : Nat) (x17 : Value) (x18 : Nat) (x19 : ClassId) (x20 : NI) (x21 : Nat) (x22 : ClassId) (x23 : NI) : va_W := [(x0, .inr (2, [x1, x2, x3, x4, x5, x6, x7, x8, x9, .int x10, x11, x12])), (x13, .inr (1, [.ref x14, .ref x15, .ref x16, x17])), (x18, .inl (x19, 64, .inl x20)), (x21, .inl (x22, 6, .inl x23))]
def qM0 (x0 : Nat) (x1 : Value) (x2 : Nat) (x3 x4 x5 x6 x7 x8 : Value) (x9 : Nat) (x10 x11 x12 x13 x14 x15 x16 x17 : Value) (x18 x19 : Int32) (x20 : Nat) (x21 x22 x23 x24 x25 x26 x27 x28 x29 : Value) (x30 : Int32) (x31 x32 : Value) (x33 x34 x35 x36 : Nat) (x37 : Value) (x38 : Nat) (x39 : ClassId) (x40 : NI) (x41 : Nat) (x42 : ClassId) (x43 : NI) (x44 : Nat) (x45 : ClassId) (x46 : Nat) (x47 : Nat → Int64) : va_W := [(x0, .inr (10, [x1, .ref x2, x3, x4, x5, x6, x7, x8, .ref x9, x10, x11, x12, x13, x14, x15, x16, x17, .int x18, .int x19])), (x20, .inr (2, [x21, x22, x23, x24, x25, x26, x27, x28, x29, .int x30, x31, x32])), (x33, .inr (1, [.ref x34, .ref x35, .ref x36, x37])), (x38, .inl (x39, 64, .inl x40)), (x41, .inl (x42, 6, .inl x43)), (x44, .inl (x45, x46, .inr (.inl x47)))]
def qAV (x0 : Nat) (x1 : Value) (x2 : Nat) (x3 x4 x5 x6 x7 x8 : Value) (x9 : Nat) (x10 x11 x12 x13 x14 x15 x16 x17 : Value) (x18 : Int32) (x19 : Value) (x20 : Nat) (x21 x22 x23 x24 x25 x26 x27 x28 x29 : Value) (x30 : Int32) (x31 x32 : Value) (x33 x34 : Nat) (x35 x36 x37 : Value) (x38 : Nat) (x39 : ClassId) (x40 : NI) : va_W := [(x0, .inr (10, [x1, .ref x2, x3, x4, x5, x6, x7, x8, .ref x9, x10, x11, x12, x13, x14, x15, x16, x17, .int x18, x19])), (x20, .inr (2, [x21, x22, x23, x24, x25, x26, x27, x28, x29, .int x30, x31, x32])), (x33, .inr (1, [.ref x34, x35, x36, x37])), (x38, .inl (x39, 64, .inl x40))]
def qMb (x0 : Nat) (x1 : Value) (x2 : Nat) (x3 x4 x5 x6 x7 x8 : Value) (x9 : Nat) (x10 x11 x12 x13 x14 x15 x16 x17 : Value) (x18 : Int32) (x19 : Value) (x20 : Nat) (x21 x22 x23 x24 x25 x26 x27 x28 x29 : Value) (x30 : Int32) (x31 x32 : Value) (x33 x34 : Nat) (x35 x36 x37 : Value) (x38 : Nat) (x39 : ClassId) (x40 : NI) (x41 : Nat) (x42 : ClassId) (x43 : Nat) (x44 : Nat → Int64) : va_W := [(x0, .inr (10, [x1, .ref x2, x3, x4, x5, x6, x7, x8, .ref x9, x10, x11, x12, x13, x14, x15, x16, x17, .int x18, x19])), (x20, .inr (2, [x21, x22, x23, x24, x25, x26, x27, x28, x29, .int x30, x31, x32])), (x33, .inr (1, [.ref x34, x35, x36, x37])), (x38, .inl (x39, 64, .inl x40)), (x41, .inl (x42, x43, .inr (.inl x44)))]
def qaaD (x0 x1 : Nat) (x2 : Int32) (x3 x4 x5 x6 x7 : Value) (x8 : Nat) (x9 : ClassId) (x10 : NI) : va_W := [(x0, .inr (8, [.ref x1, .int x2, x3, x4, x5, x6, x7])), (x8, .inl (x9, 600, .inl x10))]
def qyr (x0 x1 x2 : Nat) (x3 x4 x5 x6 x7 x8 : Value) (x9 : Int32) (x10 x11 x12 : Value) (x13 x14 : Nat) (x15 x16 x17 : Int32) (x18 : Value) (x19 x20 : Int32) (x21 : Nat) (x22 : ClassId) (x23 : NI) (x24 : Nat) (x25 : ClassId) (x26 : NI) (x27 : Nat) (x28 : ClassId) (x29 : NI) : va_W := [(x0, .inr (2, [.ref x1, .ref x2, x3, x4, x5, x6, x7, x8, .int x9, x10, x11, x12])), (x13, .inr (8, [.ref x14, .int x15, .int x16, .int x17, x18, .int x19, .int x20])), (x21, .inl (x22, 600, .inl x23)), (x24, .inl (x25, 8, .inl x26)), (x27, .inl (x28, 8, .inl x29))]
def qMi (x0 x1 : Nat) (x2 x3 x4 : Int32) (x5 : Value) (x6 x7 : Int32) : va_W := [(x0, .inr (8, [.ref x1, .int x2, .int x3, .int x4, x5, .int x6, .int x7]))]
def quf (x0 x1 : Nat) (x2 x3 x4 : Int32) (x5 : Value) (x6 x7 : Int32) (x8 : Nat) (x9 : ClassId) (x10 : NI) : va_W := [(x0, .inr (8, [.ref x1, .int x2, .int x3, .int x4, x5, .int x6, .int x7])), (x8, .inl (x9, 600, .inl x10))]
def qaXr (x0 x1 x2 : Nat) (x3 x4 x5 x6 x7 x8 : Value) (x9 : Int32) (x10 x11 x12 : Value) (x13 : Nat) (x14 : ClassId) (x15 : NI) (x16 : Nat) (x17 : ClassId) (x18 : NI) : va_W := [(x0, .inr (2, [.ref x1, .ref x2, x3, x4, x5, x6, x7, x8, .int x9, x10, x11, x12])), (x13, .inl (x14, 8, .inl x15)), (x16, .inl (x17, 8, .inl x18))]
def qyT (x0 : Nat) (x1 x2 x3 x4 : Value) (x5 x6 : Nat) (x7 x8 : Value) (x9 x10 : Int32) (x11 x12 : Value) (x13 x14 : Nat) (x15 x16 x17 : Int32) (x18 : Value) (x19 x20 : Int32) (x21 : Nat) (x22 : ClassId) (x23 : NI) (x24 : Nat) (x25 : ClassId) (x26 : NI) (x27 : Nat) (x28 : ClassId) (x29 : NI) : va_W := [(x0, .inr (2, [x1, x2, x3, x4, .ref x5, .ref x6, x7, x8, .int x9, .int x10, x11, x12])), (x13, .inr (8, [.ref x14, .int x15, .int x16, .int x17, x18, .int x19, .int x20])), (x21, .inl (x22, 600, .inl x23)), (x24, .inl (x25, 6, .inl x26)), (x27, .inl (x28, 6, .inl x29))]
def qaXq (x0 : Nat) (x1 x2 x3 x4 : Value) (x5 x6 : Nat) (x7 x8 : Value) (x9 x10 : Int32) (x11 x12 : Value) (x13 : Nat) (x14 : ClassId) (x15 : NI) (x16 : Nat) (x17 : ClassId) (x18 : NI) : va_W := [(x0, .inr (2, [x1, x2, x3, x4, .ref x5, .ref x6, x7, x8, .int x9, .int x10, x11, x12])), (x13, .inl (x14, 6, .inl x15)), (x16, .inl (x17, 6, .inl x18))]
def qyc (x0 : Nat) (x1 x2 : Value) (x3 x4 : Nat) (x5 x6 x7 x8 x9 x10 : Value) (x11 : Int32) (x12 : Value) (x13 x14 : Nat) (x15 x16 x17 : Int32) (x18 : Value) (x19 x20 : Int32) (x21 : Nat) (x22 : ClassId) (x23 : NI) (x24 : Nat) (x25 : ClassId) (x26 : NI) (x27 : Nat) (x28 : ClassId) (x29 : NI) : va_W := [(x0, .inr (2, [x1, x2, .ref x3, .ref x4, x5, x6, x7, x8, x9, x10, .int x11, x12])), (x13, .inr (8, [.ref x14, .int x15, .int x16, .int x17, x18, .int x19, .int x20])), (x21, .inl (x22, 600, .inl x23)), (x24, .inl (x25, 4, .inl x26)), (x27, .inl (x28, 4, .inl x29))]
def qaXt (x0 : Nat) (x1 x2 : Value) (x3 x4 : Nat) (x5 x6 x7 x8 x9 x10 : Value) (x11 : Int32) (x12 : Value) (x13 : Nat) (x14 : ClassId) (x15 : NI) (x16 : Nat) (x17 : ClassId) (x18 : NI) : va_W := [(x0, .inr (2, [x1, x2, .ref x3, .ref x4, x5, x6, x7, x8, x9, x10, .int x11, x12])), (x13, .inl (x14, 4, .inl x15)), (x16, .inl (x17, 4, .inl x18))]
def qzx (x0 : Nat) (x1 x2 x3 x4 x5 x6 : Value) (x7 : Nat) (x8 x9 : Value) (x10 : Int32) (x11 x12 : Value) (x13 x14 : Nat) (x15 x16 x17 : Int32) (x18 : Value) (x19 x20 : Int32) (x21 : Nat) (x22 : ClassId) (x23 : NI) (x24 : Nat) (x25 : ClassId) (x26 : NI) : va_W := [(x0, .inr (2, [x1, x2, x3, x4, x5, x6, .ref x7, x8, x9, .int x10, x11, x12])), (x13, .inr (8, [.ref x14, .int x15, .int x16, .int x17, x18, .int x19, .int x20])), (x21, .inl (x22, 600, .inl x23)), (x24, .inl (x25, 36, .inl x26))]
def qaQS (x0 : Nat) (x1 x2 x3 x4 x5 x6 : Value) (x7 : Nat) (x8 x9 : Value) (x10 : Int32) (x11 x12 : Value) (x13 : Nat) (x14 : ClassId) (x15 : NI) : va_W := [(x0, .inr (2, [x1, x2, x3, x4, x5, x6, .ref x7, x8, x9, .int x10, x11, x12])), (x13, .inl (x14, 36, .inl x15))]
def qaXc (x0 : Nat) (x1 x2 x3 x4 x5 x6 : Value) (x7 : Nat) (x8 x9 : Value) (x10 : Int32) (x11 x12 : Value) (x13 : Nat) (x14 : ClassId) (x15 : NI) (x16 : Nat) (x17 : ClassId) (x18 : NI) : va_W := [(x0, .inr (2, [x1, x2, x3, x4, x5, x6, .ref x7, x8, x9, .int x10, x11, x12])), (x13, .inl (x14, 600, .inl x15)), (x16, .inl (x17, 36, .inl x18))]
def qUa (x0 x1 x2 x3 x4 : Nat) (x5 x6 x7 x8 x9 x10 : Value) (x11 : Int32) (x12 : Value) (x13 : Nat) (x14 : ClassId) (x15 : NI) (x16 : Nat) (x17 : ClassId) (x18 : NI) (x19 : Nat) (x20 : ClassId) (x21 : NI) (x22 : Nat) (x23 : ClassId) (x24 : NI) : va_W := [(x0, .inr (2, [.ref x1, .ref x2, .ref x3, .ref x4, x5, x6, x7, x8, x9, x10, .int x11, x12])), (x13, .inl (x14, 8, .inl x15)), (x16, .inl (x17, 4, .inl x18)), (x19, .inl (x20, 8, .inl x21)), (x22, .inl (x23, 4, .inl x24))]
def qvM (x0 x1 x2 x3 x4 : Nat) (x5 x6 x7 x8 : Value) (x9 : Int32) (x10 : Value) (x11 x12 : Int32) (x13 : Nat) (x14 : ClassId) (x15 : NI) (x16 : Nat) (x17 : ClassId) (x18 : NI) (x19 : Nat) (x20 : ClassId) (x21 : NI) (x22 : Nat) (x23 : ClassId) (x24 : NI) : va_W := [(x0, .inr (2, [.ref x1, .ref x2, .ref x3, .ref x4, x5, x6, x7, x8, .int x9, x10, .int x11, .int x12])), (x13, .inl (x14, 8, .inl x15)), (x16, .inl (x17, 4, .inl x18)), (x19, .inl (x20, 8, .inl x21)), (x22, .inl (x23, 4, .inl x24))]
def qoH (x0 x1 x2 : Nat) (x3 x4 : Value) (x5 : Int32) (x6 : Nat) (x7 : ClassId) (x8 : NI) (x9 : Nat) (x10 : ClassId) (x11 : NI) : va_W := [(x0, .inr (4, [.ref x1, .ref x2, x3, x4, .int x5])), (x6, .inl (x7, 150, .inl x8)), (x9, .inl (x10, 150, .inl x11))]
def qzQ (x0 x1 : Nat) (x2 : Value) (x3 x4 x5 : Nat) (x6 : ClassId) (x7 : NI) (x8 : Nat) (x9 x10 x11 x12 : Value) (x13 x14 x15 : Nat) (x16 x17 : Value) (x18 : Int32) (x19 x20 : Value) (x21 : Nat) (x22 : ClassId) (x23 : NI) (x24 : Nat) (x25 : ClassId) (x26 : NI) (x27 : Nat) (x28 : ClassId) (x29 : NI) : va_W := [(x0, .inr (1, [.ref x1, x2, .ref x3, .ref x4])), (x5, .inl (x6, 64, .inl x7)), (x8, .inr (2, [x9, x10, x11, x12, .ref x13, .ref x14, .ref x15, x16, x17, .int x18, x19, x20])), (x21, .inl (x22, 36, .inl x23)), (x24, .inl (x25, 6, .inl x26)), (x27, .inl (x28, 6, .inl x29))]
def qajK (x0 x1 : Nat) (x2 x3 x4 : Value) (x5 : Nat) (x6 : ClassId) (x7 : NI) (x8 : Nat) (x9 x10 x11 x12 : Value) (x13 x14 x15 : Nat) (x16 x17 : Value) (x18 : Int32) (x19 x20 : Value) (x21 : Nat) (x22 : ClassId) (x23 : NI) (x24 : Nat) (x25 : ClassId) (x26 : NI) (x27 : Nat) (x28 : ClassId) (x29 : NI) : va_W := [(x0, .inr (1, [.ref x1, x2, x3, x4])), (x5, .inl (x6, 64, .inl x7)), (x8, .inr (2, [x9, x10, x11, x12, .ref x13, .ref x14, .ref x15, x16, x17, .int x18, x19, x20])), (x21, .inl (x22, 36, .inl x23)), (x24, .inl (x25, 6, .inl x26)), (x27, .inl (x28, 6, .inl x29))]
def qa44 (x0 x1 : Nat) (x2 : Value) (x3 : Nat) (x4 : Value) (x5 : Nat) (x6 : ClassId) (x7 : NI) (x8 : Nat) (x9 x10 x11 x12 : Value) (x13 x14 x15 : Nat) (x16 x17 : Value) (x18 : Int32) (x19 x20 : Value) (x21 : Nat) (x22 : ClassId) (x23 : NI) (x24 : Nat) (x25 : ClassId) (x26 : NI) (x27 : Nat) (x28 : ClassId) (x29 : NI) : va_W := [(x0, .inr (1, [.ref x1, x2, .ref x3, x4])), (x5, .inl (x6, 64, .inl x7)), (x8, .inr (2, [x9, x10, x11, x12, .ref x13, .ref x14, .ref x15, x16, x17, .int x18, x19, x20])), (x21, .inl (x22, 36, .inl x23)), (x24, .inl (x25, 6, .inl x26)), (x27, .inl (x28, 6, .inl x29))]
theorem qAh : ∀ w ∈ u_ws RX10 TX10 19, w ∈ wsX10_bouts := uiM qo8 qyE (by decide +kernel)
theorem qawz : ∀ w ∈ u_ws RX2 TX2 12, w ∈ wsX10_bouts := uiM qo8 qLg (by decide +kernel)
theorem qamY : (.fieldLink RX10 141 "MarchHares$Down" "hares" "I" : Cond) ∈ wsX10_bouts := qo8 644 (by decide +kernel)
theorem qao7 : (.fieldLink RX10 19 "MarchHares" "ground" "LMarchHares$Down;" : Cond) ∈ wsX10_bouts := qo8 20 (by decide +kernel)
theorem qEN : (.fieldLink RX10 58 "MarchHares" "now" "LMarchHares$Days;" : Cond) ∈ wsX10_bouts := qo8 79 (by decide +kernel)
set_option maxHeartbeats 4000000 in
set_option maxRecDepth 100000 in
theorem q09 {p : Program} {l : Launch} {e : Env} {s : State} {m : MethodId} {args : Array Value} {below : List Frame} {meth : Method} {c : Code} {A : Nat → Prop} (dC : Nat → ClassId) (dI : Nat → Nat → Nat) (cyB cyI cyJ cyP : ClassId) (a0 jaR jaT jbb : Nat) (jaK ja1 jcp jbc jbV ja3 jbH jbO jaq jac jbI jbl jbn jba jaa jdD jcB jcC jbo jbp jbk jbj jbe jbq jef jbi jcd jbr jfc : Value) (jbm : Int32) (jbQ : NI) (E : String → Int32 → Prop) (Q : Int32 → Int32 → Prop) (K31 : Int32 → Int32 → Int32 → Int32 → Int32 → Prop) (hK31 : ∀ (H : Heap) (locs : List Loc) (ls : Array Slot) (jdu l1 l2 l3 l4 : Int32), va_P (dC, dI) vwCl (quT a0 jaK jaR ja1 jcp jbc jbV ja3 jbH jaT jbO jaq jac jbI jbl jbn jba jaa jdu jdD jaR jcB jcC jbo jbp jbk jbj jbe jbq jef jbm jbi jcd jaT jbb jbr jaR jfc jbb cyI jbQ) H → va_D A (quT a0 jaK jaR ja1 jcp jbc jbV ja3 jbH jaT jbO jaq jac jbI jbl jbn jba jaa jdu jdD jaR jcB jcC jbo jbp jbk jbj jbe jbq jef jbm jbi jcd jaT jbb jbr jaR jfc jbb cyI jbQ) → va_S A s.heap H locs → lv_has ls 5 [(0, .ref a0), (1, .int l1), (2, .int l2), (3, .int l3), (4, .int l4)] → K31 jdu l1 l2 l3 l4 → W p l e (headSpec wsX10_bouts ({ frames := 7, cells := 1, slots := 6, locals := 212 })).room s m args below meth c H locs 1 6 (vx_MQ below (va_Qi (fun (r u : Int32) => Q r u) (cB (dC, dI) (kT cyB cyI cyJ cyP) A (fun u : Int32 => ((quT a0 jaK jaR ja1 jcp jbc jbV ja3 jbH jaT jbO jaq jac jbI jbl jbn jba jaa u jdD jaR jcB jcC jbo jbp jbk jbj jbe jbq jef jbm jbi jcd jaT jbb jbr jaR jfc jbb cyI jbQ) : va_W))) A) (vx_X (fun _ => True) (fun (en : String) (u : Int32) (t : State) => E en u ∧ cB (dC, dI) (kT cyB cyI cyJ cyP) A (fun u : Int32 => ((quT a0 jaK jaR ja1 jcp jbc jbV ja3 jbH jaT jbO jaq jac jbI jbl jbn jba jaa u jdD jaR jcB jcC jbo jbp jbk jbj jbe jbq jef jbm jbi jcd jaT jbb jbr jaR jfc jbb cyI jbQ) : va_W)) u t) A) args s 1 6 A) (F0 m 31 ls [])) (C0 : cfx p s m args meth c cX10_bouts (some .int) wsX10_bouts RX10 5 A (dC, dI) (kT cyB cyI cyJ cyP) ∧ cfX l s c A) : ∀ (H : Heap) (locs : List Loc) (ls : Array Slot) (jdu l1 l2 l3 l4 : Int32), va_P (dC, dI) vwCl (quT a0 jaK jaR ja1 jcp jbc jbV ja3 jbH jaT jbO jaq jac jbI jbl jbn jba jaa jdu jdD jaR jcB jcC jbo jbp jbk jbj jbe jbq jef jbm jbi jcd jaT jbb jbr jaR jfc jbb cyI jbQ) H → va_D A (quT a0 jaK jaR ja1 jcp jbc jbV ja3 jbH jaT jbO jaq jac jbI jbl jbn jba jaa jdu jdD jaR jcB jcC jbo jbp jbk jbj jbe jbq jef jbm jbi jcd jaT jbb jbr jaR jfc jbb cyI jbQ) → va_S A s.heap H locs → lv_has ls 5 [(0, .ref a0), (1, .int l1), (2, .int l2), (3, .int l3), (4, .int l4)] → qPd jbm jbQ E Q K31 jdu l1 l2 l3 l4 → W p l e (headSpec wsX10_bouts ({ frames := 7, cells := 1, slots := 6, locals := 212 })).room s m args below meth c H locs 1 6 (vx_MQ below (va_Qi (fun (r u : Int32) => Q r u) (cB (dC, dI) (kT cyB cyI cyJ cyP) A (fun u : Int32 => ((quT a0 jaK jaR ja1 jcp jbc jbV ja3 jbH jaT jbO jaq jac jbI jbl jbn jba jaa u jdD jaR jcB jcC jbo jbp jbk jbj jbe jbq jef jbm jbi jcd jaT jbb jbr jaR jfc jbb cyI jbQ) : va_W))) A) (vx_X (fun _ => True) (fun (en : String) (u : Int32) (t : State) => E en u ∧ cB (dC, dI) (kT cyB cyI cyJ cyP) A (fun u : Int32 => ((quT a0 jaK jaR ja1 jcp jbc jbV ja3 jbH jaT jbO jaq jac jbI jbl jbn jba jaa u jdD jaR jcB jcC jbo jbp jbk jbj jbe jbq jef jbm jbi jcd jaT jbb jbr jaR jfc jbb cyI jbQ) : va_W)) u t) A) args s 1 6 A) (F0 m 80 ls []) := by
  obtain ⟨⟨hx, hb, hr, hts, hown, hlocks, hml, hA, hK, hNw⟩, hXs⟩ := id C0
  have hY := hXs.2
  intro H locs ls jdu l1 l2 l3 l4 hP hD hS hl hw
  obtain ⟨x11, ex11⟩ : ∃ y : Int32, y = l4 + 1 := ⟨_, rfl⟩
  have hw := hw x11 ex11
  refine lv_iinc (v := x11) (lv' := [(4, .int x11), (0, .ref a0), (1, .int l1), (2, .int l2), (3, .int l3)]) hx hb (qaa qhh 12 rfl) hl (k := 4) rfl (by rw [ex11]; rfl) (by decide) rfl (fun ls hl => ?_)
  refine lv_goto (tgt := 31) hx hb (qaa qhh 13 rfl) (by decide) ?_
  exact hK31 _ _ _ jdu l1 l2 l3 x11 hP hD hS (lv_sub hl [1, 2, 3, 4, 0] rfl) hw
set_option maxHeartbeats 4000000 in
set_option maxRecDepth 100000 in
theorem qaBq {p : Program} {l : Launch} {e : Env} {s : State} {m : MethodId} {args : Array Value} {below : List Frame} {meth : Method} {c : Code} {A : Nat → Prop} (dC : Nat → ClassId) (dI : Nat → Nat → Nat) (cyB cyI cyJ cyP : ClassId) (a0 jaR jaT jbb : Nat) (jaK ja1 jcp jbc jbV ja3 jbH jbO jaq jac jbI jbl jbn jba jaa jdD jcB jcC jbo jbp jbk jbj jbe jbq jef jbi jcd jbr jfc : Value) (jbm : Int32) (jbQ : NI) (E : String → Int32 → Prop) (Q : Int32 → Int32 → Prop) (C0 : cfx p s m args meth c cX10_bouts (some .int) wsX10_bouts RX10 5 A (dC, dI) (kT cyB cyI cyJ cyP) ∧ cfX l s c A) : ∀ (n : Nat) (H : Heap) (locs : List Loc) (ls : Array Slot) (jdu l1 l2 l3 l4 : Int32), va_P (dC, dI) vwCl (quT a0 jaK jaR ja1 jcp jbc jbV ja3 jbH jaT jbO jaq jac jbI jbl jbn jba jaa jdu jdD jaR jcB jcC jbo jbp jbk jbj jbe jbq jef jbm jbi jcd jaT jbb jbr jaR jfc jbb cyI jbQ) H → va_D A (quT a0 jaK jaR ja1 jcp jbc jbV ja3 jbH jaT jbO jaq jac jbI jbl jbn jba jaa jdu jdD jaR jcB jcC jbo jbp jbk jbj jbe jbq jef jbm jbi jcd jaT jbb jbr jaR jfc jbb cyI jbQ) → va_S A s.heap H locs → lv_has ls 5 [(0, .ref a0), (1, .int l1), (2, .int l2), (3, .int l3), (4, .int l4)] → qt4 jbm jbQ E Q n jdu l1 l2 l3 l4 → W p l e (headSpec wsX10_bouts ({ frames := 7, cells := 1, slots := 6, locals := 212 })).room s m args below meth c H locs 1 6 (vx_MQ below (va_Qi (fun (r u : Int32) => Q r u) (cB (dC, dI) (kT cyB cyI cyJ cyP) A (fun u : Int32 => ((quT a0 jaK jaR ja1 jcp jbc jbV ja3 jbH jaT jbO jaq jac jbI jbl jbn jba jaa u jdD jaR jcB jcC jbo jbp jbk jbj jbe jbq jef jbm jbi jcd jaT jbb jbr jaR jfc jbb cyI jbQ) : va_W))) A) (vx_X (fun _ => True) (fun (en : String) (u : Int32) (t : State) => E en u ∧ cB (dC, dI) (kT cyB cyI cyJ cyP) A (fun u : Int32 => ((quT a0 jaK jaR ja1 jcp jbc jbV ja3 jbH jaT jbO jaq jac jbI jbl jbn jba jaa u jdD jaR jcB jcC jbo jbp jbk jbj jbe jbq jef jbm jbi jcd jaT jbb jbr jaR jfc jbb cyI jbQ) : va_W)) u t) A) args s 1 6 A) (F0 m 31 ls []) := by
  obtain ⟨⟨hx, hb, hr, hts, hown, hlocks, hml, hA, hK, hNw⟩, hXs⟩ := id C0
  have hY := hXs.2
  intro n
  induction n with
  | zero => intro H locs ls jdu l1 l2 l3 l4 hP hD hS hl hw; exact False.elim hw
  | succ n ih =>
    intro H locs ls jdu l1 l2 l3 l4 hP hD hS hl hw
    refine lv_iload hx hb (qaa qgR 2 rfl) (lv_at hl 4 rfl) ?_
    refine lv_aload_n hx hb (qaa qgR 3 rfl) rfl (lv_at hl 0 rfl) ?_
    refine va_get (D := (dC, dI)) (ci := 10) (v := .ref jaR) (C := RX10) (T := TX10) (N := 19) hx hb hts qAh hown hK hP 0 rfl rfl 1 (by decide) (hts _ qao7) (fun _ h9 => h9) rfl (qaa qgR 4 rfl) ?_
    refine va_get (D := (dC, dI)) (ci := 2) (v := .int jbm) (C := RX2) (T := TX2) (N := 12) hx hb hts qawz hown hK hP 1 rfl rfl 9 (by decide) (hts _ qamY) (fun _ h9 => h9) rfl (qaa qgR 5 rfl) ?_
    refine lv_icmp_ge (tgt := 86) hx hb (qaa qgR 6 rfl) (by decide) (fun c5 => ?_) (fun c5 => ?_)
    · have hw := hw.1 c5
      refine lv_iload_n hx hb (qaa qhh 14 rfl) rfl (lv_at hl 3 rfl) ?_
      exact vx_ret (W.widen (k := 1) (n := 6) (nbq rfl) (nbq rfl) (W.iret (v := l3) hx hb hr (fun t ht hW => ⟨⟨l3, (jdu), rfl, hw, by rw [ht]; exact hP, va_K.moved hW.alike hK, hD⟩, hS.F ht⟩) hS.2.2 (qaa qhh 15 rfl)))
    · have hw := hw.2 c5
      refine lv_iload_n hx hb (qaa qgR 7 rfl) rfl (lv_at hl 2 rfl) ?_
      refine lv_iload hx hb (qaa qgR 8 rfl) (lv_at hl 4 rfl) ?_
      obtain ⟨hCc, hPc, hDc, hFc⟩ := qac (ws' := []) hP hD hS hA [] (by decide +kernel) rfl
      refine va_calli (va_runS (As := [.int l2, .int l4]) (rest := []) ⟨hx, hb, hml, hown, hts⟩ (qnt l dC dI cyB cyI cyJ cyP H.size l2 l4 hw) (va_cwS 2 hts gX10_bouts_X10_holds rfl rfl rfl (by decide +kernel) ⟨nbq rfl, nbq rfl⟩) ⟨qab, qae hPc hK hDc hNw⟩ rfl rfl hl.1 rfl (lv_room (nbq rfl)) (qaa qgR 9 rfl) ⟨nbq rfl, nbq rfl⟩) hS (fun q _ h => hFc q h) hFc (fun r6 u t H1 locs ht hvm hw hB hz1 hk1 hS => ?_)
      obtain ⟨hP1, hK1, hD1⟩ := hB
      rw [ht] at hP1
      obtain ⟨hP, hD⟩ := qah (wr := (quT a0 jaK jaR ja1 jcp jbc jbV ja3 jbH jaT jbO jaq jac jbI jbl jbn jba jaa jdu jdD jaR jcB jcC jbo jbp jbk jbj jbe jbq jef jbm jbi jcd jaT jbb jbr jaR jfc jbb cyI jbQ)) (w1 := []) (wn := (quT a0 jaK jaR ja1 jcp jbc jbV ja3 jbH jaT jbO jaq jac jbI jbl jbn jba jaa jdu jdD jaR jcB jcC jbo jbp jbk jbj jbe jbq jef jbm jbi jcd jaT jbb jbr jaR jfc jbb cyI jbQ)) hP hD [] [0, 1, 2, 3] hCc rfl (by decide +kernel) (by decide +kernel) rfl hk1 hFc hP1 hD1
      generalize H1 = H at hP hS ⊢
      refine lv_if_eq (tgt := 80) hx hb (qaa qgR 10 rfl) (by decide) (fun c7 => ?_) (fun c7 => ?_)
      · have hw := hw.1 c7
        exact q09 dC dI cyB cyI cyJ cyP a0 jaR jaT jbb jaK ja1 jcp jbc jbV ja3 jbH jbO jaq jac jbI jbl jbn jba jaa jdD jcB jcC jbo jbp jbk jbj jbe jbq jef jbi jcd jbr jfc jbm jbQ E Q (qt4 jbm jbQ E Q n) ih C0 _ _ _ jdu l1 l2 l3 l4 hP hD hS (lv_sub hl [0, 1, 2, 3, 4] rfl) hw
      · have hw := hw.2 c7
        refine lv_iload_n hx hb (qaa qgR 11 rfl) rfl (lv_at hl 3 rfl) ?_
        refine lv_aload_n hx hb (qaa qgR 12 rfl) rfl (lv_at hl 0 rfl) ?_
        refine va_get (D := (dC, dI)) (ci := 10) (v := .ref jaT) (C := RX10) (T := TX10) (N := 19) hx hb hts qAh hown hK hP 0 rfl rfl 8 (by decide) (hts _ qEN) (fun _ h9 => h9) rfl (qaa qgR 13 rfl) ?_
        refine lv_iload_n hx hb (qaa qgR 14 rfl) rfl (lv_at hl 1 rfl) ?_
        refine lv_iload hx hb (qaa qgR 15 rfl) (lv_at hl 4 rfl) ?_
        refine lv_aload_n hx hb (qaa qhh 0 rfl) rfl (lv_at hl 0 rfl) ?_
        refine va_get (D := (dC, dI)) (ci := 10) (v := .ref jaT) (C := RX10) (T := TX10) (N := 19) hx hb hts qAh hown hK hP 0 rfl rfl 8 (by decide) (hts _ qEN) (fun _ h9 => h9) rfl (qaa qhh 1 rfl) ?_
        refine lv_iload hx hb (qaa qhh 2 rfl) (lv_at hl 4 rfl) ?_
        obtain ⟨hCc, hPc, hDc, hFc⟩ := qac (ws' := (qSm jaT jbb jbr jaR jfc jbb cyI jbQ)) hP hD hS hA [2, 3] (by decide +kernel) rfl
        refine va_calli (va_runV (As := [.int l4]) (rest := [.int l4, .int l1, .ref jaT, .int l3]) ⟨hx, hb, hml, hown, hts⟩ (qsG l dC dI cyB cyI cyJ cyP jaT jbb H.size (jbr) (.ref jaR) (jfc) jbQ l4 hw) (cwV 1 hts gX10_bouts_X1_strong rfl rfl rfl (by decide +kernel) ⟨nbq rfl, nbq rfl⟩) ⟨qab, va_recv (q := (RX1, TX1, 4)) hK hPc (ci := 1) (q0 := 0) rfl rfl, qae hPc hK hDc hNw⟩ rfl rfl hl.1 rfl (lv_room (nbq rfl)) (qaa qhh 3 rfl) ⟨nbq rfl, nbq rfl⟩) hS (fun q _ h => hFc q h) hFc (fun r8 u t H1 locs ht hvm hw hB hz1 hk1 hS => ?_)
        obtain ⟨hP1, hK1, hD1⟩ := hB
        rw [ht] at hP1
        obtain ⟨hP, hD⟩ := qah (wr := (qVZ a0 jaK jaR ja1 jcp jbc jbV ja3 jbH jaT jbO jaq jac jbI jbl jbn jba jaa jdu jdD jaR jcB jcC jbo jbp jbk jbj jbe jbq jef jbm jbi jcd)) (w1 := (qSm jaT jbb jbr jaR jfc jbb cyI jbQ)) (wn := (quT a0 jaK jaR ja1 jcp jbc jbV ja3 jbH jaT jbO jaq jac jbI jbl jbn jba jaa jdu jdD jaR jcB jcC jbo jbp jbk jbj jbe jbq jef jbm jbi jcd jaT jbb jbr jaR jfc jbb cyI jbQ)) hP hD [2, 3] [0, 1] hCc rfl (by decide +kernel) (by decide +kernel) rfl hk1 hFc hP1 hD1
        generalize H1 = H at hP hS ⊢
        refine lv_iload_n hx hb (qaa qhh 4 rfl) rfl (lv_at hl 2 rfl) ?_
        refine lv_iconst (v := 1) hx hb (qaa qhh 5 rfl) (by decide) ?_
        refine lv_iload hx hb (qaa qhh 6 rfl) (lv_at hl 4 rfl) ?_
        refine lv_ishl hx hb (qaa qhh 7 rfl) ?_
        refine lv_ixor hx hb (qaa qhh 8 rfl) ?_
        obtain ⟨hCc, hPc, hDc, hFc⟩ := qac (ws' := (qSm jaT jbb jbr jaR jfc jbb cyI jbQ)) hP hD hS hA [2, 3] (by decide +kernel) rfl
        refine va_calli (va_runS (As := [.ref jaT, .int l1, .int l4, .int r8, .int (l2 ^^^ (1 <<< (l4 &&& 31)))]) (rest := [.int l3]) ⟨hx, hb, hml, hown, hts⟩ (q9p l dC dI cyB cyI cyJ cyP jaT jbb H.size (jbr) (.ref jaR) (jfc) jbQ l1 l4 r8 (l2 ^^^ (1 <<< (l4 &&& 31))) hw) (va_cwS 5 hts gX10_bouts_X10_ordersWon rfl rfl rfl (by decide +kernel) ⟨nbq rfl, nbq rfl⟩) ⟨qab, qae hPc hK hDc hNw⟩ rfl rfl hl.1 rfl (lv_room (nbq rfl)) (qaa qhh 9 rfl) ⟨nbq rfl, nbq rfl⟩) hS (fun q _ h => hFc q h) hFc (fun r9 u t H1 locs ht hvm hw hB hz1 hk1 hS => ?_)
        obtain ⟨hP1, hK1, hD1⟩ := hB
        rw [ht] at hP1
        obtain ⟨hP, hD⟩ := qah (wr := (qVZ a0 jaK jaR ja1 jcp jbc jbV ja3 jbH jaT jbO jaq jac jbI jbl jbn jba jaa jdu jdD jaR jcB jcC jbo jbp jbk jbj jbe jbq jef jbm jbi jcd)) (w1 := (qSm jaT jbb jbr jaR jfc jbb cyI jbQ)) (wn := (quT a0 jaK jaR ja1 jcp jbc jbV ja3 jbH jaT jbO jaq jac jbI jbl jbn jba jaa jdu jdD jaR jcB jcC jbo jbp jbk jbj jbe jbq jef jbm jbi jcd jaT jbb jbr jaR jfc jbb cyI jbQ)) hP hD [2, 3] [0, 1] hCc rfl (by decide +kernel) (by decide +kernel) rfl hk1 hFc hP1 hD1
        generalize H1 = H at hP hS ⊢
        refine lv_iadd hx hb (qaa qhh 10 rfl) ?_
        refine lv_topi (fun x10 ex10 => ?_)
        have hw := hw x10 ex10
        refine lv_istore_n (lv' := [(3, .int x10), (0, .ref a0), (1, .int l1), (2, .int l2), (4, .int l4)]) hx hb (qaa qhh 11 rfl) rfl hl (by decide) rfl (fun ls hl => ?_)
        exact q09 dC dI cyB cyI cyJ cyP a0 jaR jaT jbb jaK ja1 jcp jbc jbV ja3 jbH jbO jaq jac jbI jbl jbn jba jaa jdD jcB jcC jbo jbp jbk jbj jbe jbq jef jbi jcd jbr jfc jbm jbQ E Q (qt4 jbm jbQ E Q n) ih C0 _ _ _ jdu l1 l2 x10 l4 hP hD hS (lv_sub hl [1, 2, 3, 0, 4] rfl) hw
set_option maxHeartbeats 4000000 in
set_option maxRecDepth 100000 in
theorem qaV9 (l : Launch) (dC : Nat → ClassId) (dI : Nat → Nat → Nat) (cyB cyI cyJ cyP : ClassId) (a0 jaR jaT jbb sz : Nat) (jaK ja1 jcp jbc jbV ja3 jbH jbO jaq jac jbI jbl jbn jba jaa jdD jcB jcC jbo jbp jbk jbj jbe jbq jef jbi jcd jbr jfc : Value) (jbm : Int32) (jbQ : NI) (jdu p1 : Int32) {E : String → Int32 → Prop} {Q : Int32 → Int32 → Prop} (hw : q3V jbm jbQ jdu p1 E Q) : vx_Met l yX10_bouts wsX10_bouts ({ frames := 7, cells := 1, slots := 6, locals := 212 }) (va_Pc [.ref a0, .int p1] (cPx l (dC, dI) (kT cyB cyI cyJ cyP) (quT a0 jaK jaR ja1 jcp jbc jbV ja3 jbH jaT jbO jaq jac jbI jbl jbn jba jaa jdu jdD jaR jcB jcC jbo jbp jbk jbj jbe jbq jef jbm jbi jcd jaT jbb jbr jaR jfc jbb cyI jbQ) sz)) (va_Qi (fun (r u : Int32) => Q r u) (cB (dC, dI) (kT cyB cyI cyJ cyP) (va_A (quT a0 jaK jaR ja1 jcp jbc jbV ja3 jbH jaT jbO jaq jac jbI jbl jbn jba jaa jdu jdD jaR jcB jcC jbo jbp jbk jbj jbe jbq jef jbm jbi jcd jaT jbb jbr jaR jfc jbb cyI jbQ) sz) (fun u : Int32 => ((quT a0 jaK jaR ja1 jcp jbc jbV ja3 jbH jaT jbO jaq jac jbI jbl jbn jba jaa u jdD jaR jcB jcC jbo jbp jbk jbj jbe jbq jef jbm jbi jcd jaT jbb jbr jaR jfc jbb cyI jbQ) : va_W))) (va_A (quT a0 jaK jaR ja1 jcp jbc jbV ja3 jbH jaT jbO jaq jac jbI jbl jbn jba jaa jdu jdD jaR jcB jcC jbo jbp jbk jbj jbe jbq jef jbm jbi jcd jaT jbb jbr jaR jfc jbb cyI jbQ) sz)) (vx_X (fun _ => True) (fun (en : String) (u : Int32) (t : State) => E en u ∧ cB (dC, dI) (kT cyB cyI cyJ cyP) (va_A (quT a0 jaK jaR ja1 jcp jbc jbV ja3 jbH jaT jbO jaq jac jbI jbl jbn jba jaa jdu jdD jaR jcB jcC jbo jbp jbk jbj jbe jbq jef jbm jbi jcd jaT jbb jbr jaR jfc jbb cyI jbQ) sz) (fun u : Int32 => ((quT a0 jaK jaR ja1 jcp jbc jbV ja3 jbH jaT jbO jaq jac jbI jbl jbn jba jaa u jdD jaR jcB jcC jbo jbp jbk jbj jbe jbq jef jbm jbi jcd jaT jbb jbr jaR jfc jbb cyI jbQ) : va_W)) u t) (va_A (quT a0 jaK jaR ja1 jcp jbc jbV ja3 jbH jaT jbO jaq jac jbI jbl jbn jba jaa jdu jdD jaR jcB jcC jbo jbp jbk jbj jbe jbq jef jbm jbi jcd jaT jbb jbr jaR jfc jbb cyI jbQ) sz)) 1 6 (va_A (quT a0 jaK jaR ja1 jcp jbc jbV ja3 jbH jaT jbO jaq jac jbI jbl jbn jba jaa jdu jdD jaR jcB jcC jbo jbp jbk jbj jbe jbq jef jbm jbi jcd jaT jbb jbr jaR jfc jbb cyI jbQ) sz) := by
  refine vx_ofW (cc := cX10_bouts) (maxL := 5) (ret := (some .int)) (by decide) rfl ?_
  intro p e s m args below meth c s₁ B hml hnt hv
  obtain ⟨rfl, hsz, hP, hK, hD0, hNw, hXl, hXu, hXn, hXt⟩ := hv
  have hx := B.exec
  have hb := B.bytes
  have hr := B.returns
  have hts := atoms_spec (ws := wsX10_bouts) B.pre
  have hown : s.vm.findClass RX10 = some m.cls := findClass_of_methodNamed B.named
  have hlocks := B.notSynchronized
  subst hsz
  have hD := hD0.self (sz := s.heap.size)
  generalize hAe : va_A (quT a0 jaK jaR ja1 jcp jbc jbV ja3 jbH jaT jbO jaq jac jbI jbl jbn jba jaa jdu jdD jaR jcB jcC jbo jbp jbk jbj jbe jbq jef jbm jbi jcd jaT jbb jbr jaR jfc jbb cyI jbQ) s.heap.size = A at hD hXu hXn ⊢
  have hA : ∀ q : Nat, s.heap.size ≤ q → A q := fun q h => by rw [← hAe]; exact Or.inr h
  have hS : va_S A s.heap s.heap [] := va_S.rf
  have hP : va_P (dC, dI) vwCl (quT a0 jaK jaR ja1 jcp jbc jbV ja3 jbH jaT jbO jaq jac jbI jbl jbn jba jaa jdu jdD jaR jcB jcC jbo jbp jbk jbj jbe jbq jef jbm jbi jcd jaT jbb jbr jaR jfc jbb cyI jbQ) s.heap := hP
  have hl := lv_entry ([.ref a0, .int p1]) (n := 5) (nbq rfl)
  rw [lg_entry_eq]
  generalize (lg_sl ([.ref a0, .int p1]) ++ List.replicate (5 - (lg_sl ([.ref a0, .int p1])).length) Slot.unset).toArray = ls at hl ⊢
  have hl : lv_has ls 5 [(0, .ref a0), (1, .int p1)] := hl
  have hY : cfY l s A := ⟨hXl, hXu, hXn, hXt⟩
  have hXs : cfX l s c A := ⟨hnt, hY⟩
  have C0 : cfx p s m _ meth c cX10_bouts (some .int) wsX10_bouts RX10 5 A (dC, dI) (kT cyB cyI cyJ cyP) ∧ cfX l s c A := ⟨⟨hx, hb, hr, hts, hown, hlocks, hml, hA, hK, hNw⟩, hXs⟩
  clear hAe
  obtain ⟨H, hH⟩ : ∃ H, H = s.heap := ⟨_, rfl⟩
  rw [← hH] at hP ⊢
  have hS : va_S A s.heap H [] := by rw [hH]; exact va_S.rf
  have hS := hS
  refine lv_aload_n hx hb (qaa qjQ 0 rfl) rfl (lv_at hl 0 rfl) ?_
  refine lv_iload_n hx hb (qaa qjQ 1 rfl) rfl (lv_at hl 1 rfl) ?_
  obtain ⟨hCc, hPc, hDc, hFc⟩ := qac (ws' := (qVZ a0 jaK jaR ja1 jcp jbc jbV ja3 jbH jaT jbO jaq jac jbI jbl jbn jba jaa jdu jdD jaR jcB jcC jbo jbp jbk jbj jbe jbq jef jbm jbi jcd)) hP hD hS hA [0, 1] (by decide +kernel) rfl
  refine vx_callv (vx_runV (As := [.int p1]) (rest := []) ⟨hx, hb, hml, hown, hts⟩ (qqH l dC dI cyB cyI cyJ cyP a0 jaR H.size (jaK) (ja1) (jcp) (jbc) (jbV) (ja3) (jbH) (.ref jaT) (jbO) (jaq) (jac) (jbI) (jbl) (jbn) (jba) (jaa) (jdD) (jcB) (jcC) (jbo) (jbp) (jbk) (jbj) (jbe) (jbq) (jef) (jbi) (jcd) jbm jdu p1 hw) (cwV 1 hts gX10_bouts_X10_needHare rfl rfl rfl (by decide +kernel) ⟨nbq rfl, nbq rfl⟩) ⟨qau, va_recv (q := (RX10, TX10, 19)) hK hPc (ci := 10) (q0 := 0) rfl rfl, qbk hPc hK hDc hNw hY hS hFc⟩ rfl rfl hl.1 rfl (lv_room (nbq rfl)) (qaa qjQ 2 rfl) ⟨nbq rfl, nbq rfl⟩) hS (fun q _ h => hFc q h) hFc (fun q _ h => hFc q h) (fun en ce q9 u t H1 locs ht hvm hpx hB hz1 hk1 hS hc9 hv9 hcl9 => ?_) (fun u t H1 locs ht hvm hw hB hz1 hk1 hS => ?_)
  · obtain ⟨x1, rfl⟩ : ∃ z, z = u := ⟨_, rfl⟩
    obtain ⟨hw, hP1, hK1, hD1⟩ := hB
    rw [ht] at hP1
    obtain ⟨hP, hD⟩ := qad (wr := (qSm jaT jbb jbr jaR jfc jbb cyI jbQ)) (w1 := (qVZ a0 jaK jaR ja1 jcp jbc jbV ja3 jbH jaT jbO jaq jac jbI jbl jbn jba jaa x1 jdD jaR jcB jcC jbo jbp jbk jbj jbe jbq jef jbm jbi jcd)) (wn := (quT a0 jaK jaR ja1 jcp jbc jbV ja3 jbH jaT jbO jaq jac jbI jbl jbn jba jaa x1 jdD jaR jcB jcC jbo jbp jbk jbj jbe jbq jef jbm jbi jcd jaT jbb jbr jaR jfc jbb cyI jbQ)) hP hD [0, 1] [2, 3] [2, 3, 0, 1] hCc rfl (by decide +kernel) (by decide +kernel) (by decide +kernel) rfl hk1 hFc hP1 hD1
    generalize H1 = H at hP hS hc9 ⊢
    exact vx_out (fun x hx9 => (hXs.1 x hx9).elim) hlocks hc9 hv9 hcl9 (fun t2 ht2 hal2 => ⟨(x1), trivial, ⟨hw, by rw [ht2]; exact hP, va_K.moved hal2 hK, hD⟩, hS.F ht2⟩) hS.2.2 (nbq rfl) (nbq rfl)
  obtain ⟨x1, rfl⟩ : ∃ z, z = u := ⟨_, rfl⟩
  obtain ⟨hP1, hK1, hD1⟩ := hB
  rw [ht] at hP1
  obtain ⟨hP, hD⟩ := qad (wr := (qSm jaT jbb jbr jaR jfc jbb cyI jbQ)) (w1 := (qVZ a0 jaK jaR ja1 jcp jbc jbV ja3 jbH jaT jbO jaq jac jbI jbl jbn jba jaa x1 jdD jaR jcB jcC jbo jbp jbk jbj jbe jbq jef jbm jbi jcd)) (wn := (quT a0 jaK jaR ja1 jcp jbc jbV ja3 jbH jaT jbO jaq jac jbI jbl jbn jba jaa x1 jdD jaR jcB jcC jbo jbp jbk jbj jbe jbq jef jbm jbi jcd jaT jbb jbr jaR jfc jbb cyI jbQ)) hP hD [0, 1] [2, 3] [2, 3, 0, 1] hCc rfl (by decide +kernel) (by decide +kernel) (by decide +kernel) rfl hk1 hFc hP1 hD1
  generalize H1 = H at hP hS ⊢
  refine lv_aload_n hx hb (qaa qjQ 3 rfl) rfl (lv_at hl 0 rfl) ?_
  refine va_get (D := (dC, dI)) (ci := 10) (v := .ref jaT) (C := RX10) (T := TX10) (N := 19) hx hb hts qAh hown hK hP 0 rfl rfl 8 (by decide) (hts _ qEN) (fun _ h9 => h9) rfl (qaa qjQ 4 rfl) ?_
  refine lv_iload_n hx hb (qaa qjQ 5 rfl) rfl (lv_at hl 1 rfl) ?_
  obtain ⟨hCc, hPc, hDc, hFc⟩ := qac (ws' := (qSm jaT jbb jbr jaR jfc jbb cyI jbQ)) hP hD hS hA [2, 3] (by decide +kernel) rfl
  refine va_calli (va_runV (As := [.int p1]) (rest := []) ⟨hx, hb, hml, hown, hts⟩ (qh8 l dC dI cyB cyI cyJ cyP jaT jbb H.size (jbr) (.ref jaR) (jfc) jbQ p1 hw) (cwV 1 hts gX10_bouts_X1_isCaught rfl rfl rfl (by decide +kernel) ⟨nbq rfl, nbq rfl⟩) ⟨qab, va_recv (q := (RX1, TX1, 4)) hK hPc (ci := 1) (q0 := 0) rfl rfl, qae hPc hK hDc hNw⟩ rfl rfl hl.1 rfl (lv_room (nbq rfl)) (qaa qjQ 6 rfl) ⟨nbq rfl, nbq rfl⟩) hS (fun q _ h => hFc q h) hFc (fun r2 u t H1 locs ht hvm hw hB hz1 hk1 hS => ?_)
  obtain ⟨hP1, hK1, hD1⟩ := hB
  rw [ht] at hP1
  obtain ⟨hP, hD⟩ := qah (wr := (qVZ a0 jaK jaR ja1 jcp jbc jbV ja3 jbH jaT jbO jaq jac jbI jbl jbn jba jaa x1 jdD jaR jcB jcC jbo jbp jbk jbj jbe jbq jef jbm jbi jcd)) (w1 := (qSm jaT jbb jbr jaR jfc jbb cyI jbQ)) (wn := (quT a0 jaK jaR ja1 jcp jbc jbV ja3 jbH jaT jbO jaq jac jbI jbl jbn jba jaa x1 jdD jaR jcB jcC jbo jbp jbk jbj jbe jbq jef jbm jbi jcd jaT jbb jbr jaR jfc jbb cyI jbQ)) hP hD [2, 3] [0, 1] hCc rfl (by decide +kernel) (by decide +kernel) rfl hk1 hFc hP1 hD1
  generalize H1 = H at hP hS ⊢
  refine lv_if_eq (tgt := 18) hx hb (qaa qjQ 7 rfl) (by decide) (fun c3 => ?_) (fun c3 => ?_)
  · have hw := hw.1 c3
    refine lv_aload_n hx hb (qaa qjQ 10 rfl) rfl (lv_at hl 0 rfl) ?_
    refine va_get (D := (dC, dI)) (ci := 10) (v := .ref jaT) (C := RX10) (T := TX10) (N := 19) hx hb hts qAh hown hK hP 0 rfl rfl 8 (by decide) (hts _ qEN) (fun _ h9 => h9) rfl (qaa qjQ 11 rfl) ?_
    obtain ⟨hCc, hPc, hDc, hFc⟩ := qac (ws' := (qv4 jaT jbb jbr jaR jfc jaR jcB jcC jbo jbp jbk jbj jbe jbq jef jbm jbi jcd jbb cyI jbQ)) hP hD hS hA [2, 1, 3] (by decide +kernel) rfl
    refine va_calli (va_runV (As := []) (rest := []) ⟨hx, hb, hml, hown, hts⟩ (qaJQ l dC dI cyB cyI cyJ cyP jaT jaR jbb H.size (jbr) (jfc) (jcB) (jcC) (jbo) (jbp) (jbk) (jbj) (jbe) (jbq) (jef) (jbi) (jcd) jbm jbQ hw) (cwV 0 hts gX10_bouts_X1_freeOnes rfl rfl rfl (by decide +kernel) ⟨nbq rfl, nbq rfl⟩) ⟨qab, va_recv (q := (RX1, TX1, 4)) hK hPc (ci := 1) (q0 := 0) rfl rfl, qae hPc hK hDc hNw⟩ rfl rfl hl.1 rfl (lv_room (nbq rfl)) (qaa qjQ 12 rfl) ⟨nbq rfl, nbq rfl⟩) hS (fun q _ h => hFc q h) hFc (fun r4 u t H1 locs ht hvm hw hB hz1 hk1 hS => ?_)
    obtain ⟨hP1, hK1, hD1⟩ := hB
    rw [ht] at hP1
    obtain ⟨hP, hD⟩ := qad (wr := (qbcv a0 jaK jaR ja1 jcp jbc jbV ja3 jbH jaT jbO jaq jac jbI jbl jbn jba jaa x1 jdD)) (w1 := (qv4 jaT jbb jbr jaR jfc jaR jcB jcC jbo jbp jbk jbj jbe jbq jef jbm jbi jcd jbb cyI jbQ)) (wn := (quT a0 jaK jaR ja1 jcp jbc jbV ja3 jbH jaT jbO jaq jac jbI jbl jbn jba jaa x1 jdD jaR jcB jcC jbo jbp jbk jbj jbe jbq jef jbm jbi jcd jaT jbb jbr jaR jfc jbb cyI jbQ)) hP hD [2, 1, 3] [0] [0, 2, 1, 3] hCc rfl (by decide +kernel) (by decide +kernel) (by decide +kernel) rfl hk1 hFc hP1 hD1
    generalize H1 = H at hP hS ⊢
    refine lv_istore_n (lv' := [(2, .int r4), (0, .ref a0), (1, .int p1)]) hx hb (qaa qjQ 13 rfl) rfl hl (by decide) rfl (fun ls hl => ?_)
    refine lv_iconst (v := 0) hx hb (qaa qjQ 14 rfl) (by decide) ?_
    refine lv_istore_n (lv' := [(3, .int 0), (2, .int r4), (0, .ref a0), (1, .int p1)]) hx hb (qaa qjQ 15 rfl) rfl hl (by decide) rfl (fun ls hl => ?_)
    refine lv_iconst (v := 0) hx hb (qaa qgR 0 rfl) (by decide) ?_
    refine lv_istore (lv' := [(4, .int 0), (3, .int 0), (2, .int r4), (0, .ref a0), (1, .int p1)]) hx hb (qaa qgR 1 rfl) hl (by decide) rfl (fun ls hl => ?_)
    obtain ⟨n9, hw⟩ := hw
    exact qaBq dC dI cyB cyI cyJ cyP a0 jaR jaT jbb jaK ja1 jcp jbc jbV ja3 jbH jbO jaq jac jbI jbl jbn jba jaa jdD jcB jcC jbo jbp jbk jbj jbe jbq jef jbi jcd jbr jfc jbm jbQ E Q C0 n9 _ _ _ x1 p1 r4 0 0 hP hD hS (lv_sub hl [3, 4, 2, 1, 0] rfl) hw
  · have hw := hw.2 c3
    refine lv_iconst (v := 0) hx hb (qaa qjQ 8 rfl) (by decide) ?_
    exact vx_ret (W.widen (k := 1) (n := 6) (nbq rfl) (nbq rfl) (W.iret (v := 0) hx hb hr (fun t ht hW => ⟨⟨0, (x1), rfl, hw, by rw [ht]; exact hP, va_K.moved hW.alike hK, hD⟩, hS.F ht⟩) hS.2.2 (qaa qjQ 9 rfl)))
theorem qazW : (.classLink RL 31 "java/util/NoSuchElementException" : Cond) ∈ wsL_bouts := qaeE 2639 (by decide +kernel)
theorem qaRI : (.codeWith yL_bouts cL_bouts 4 (some .int) [(0, 9, 12, 31)] : Cond) ∈ wsL_bouts := qaeE 3351 (by decide +kernel)
set_option maxHeartbeats 4000000 in
set_option maxRecDepth 100000 in
theorem qa1K (l : Launch) (dC : Nat → ClassId) (dI : Nat → Nat → Nat) (cyB cyI cyJ cyP : ClassId) (a0 a2 jaR jaT jbb sz : Nat) (jaK ja1 jcp jbc jbV ja3 jbH jbO jaq jac jbI jbl jbn jba jaa jdD jcB jcC jbo jbp jbk jbj jbe jbq jef jbi jcd jbr jfc : Value) (n2 : Nat) (jbm : Int32) (jbQ : NI) (jdu : Int32) (f2 : Nat → Int64) (p1 : Int32) {Q : Int32 → Int32 → (Nat → Int64) → Prop} (hw : qaLL n2 jbm jbQ jdu f2 p1 Q) : Met l yL_bouts wsL_bouts ({ frames := 8, cells := 1, slots := 6, locals := 236 }) (va_Pc [.ref a0, .int p1, .ref a2] (cPx l (dC, dI) (kT cyB cyI cyJ cyP) (qYG a0 jaK jaR ja1 jcp jbc jbV ja3 jbH jaT jbO jaq jac jbI jbl jbn jba jaa jdu jdD jaR jcB jcC jbo jbp jbk jbj jbe jbq jef jbm jbi jcd jaT jbb jbr jaR jfc jbb cyI jbQ a2 cyJ n2 f2) sz)) (va_Qi (fun (r : Int32) (u : Int32 × (Nat → Int64)) => Q r u.1 u.2) (cB (dC, dI) (kT cyB cyI cyJ cyP) (va_A (qYG a0 jaK jaR ja1 jcp jbc jbV ja3 jbH jaT jbO jaq jac jbI jbl jbn jba jaa jdu jdD jaR jcB jcC jbo jbp jbk jbj jbe jbq jef jbm jbi jcd jaT jbb jbr jaR jfc jbb cyI jbQ a2 cyJ n2 f2) sz) (fun u : Int32 × (Nat → Int64) => ((qYG a0 jaK jaR ja1 jcp jbc jbV ja3 jbH jaT jbO jaq jac jbI jbl jbn jba jaa u.1 jdD jaR jcB jcC jbo jbp jbk jbj jbe jbq jef jbm jbi jcd jaT jbb jbr jaR jfc jbb cyI jbQ a2 cyJ n2 u.2) : va_W))) (va_A (qYG a0 jaK jaR ja1 jcp jbc jbV ja3 jbH jaT jbO jaq jac jbI jbl jbn jba jaa jdu jdD jaR jcB jcC jbo jbp jbk jbj jbe jbq jef jbm jbi jcd jaT jbb jbr jaR jfc jbb cyI jbQ a2 cyJ n2 f2) sz)) 1 6 (va_A (qYG a0 jaK jaR ja1 jcp jbc jbV ja3 jbH jaT jbO jaq jac jbI jbl jbn jba jaa jdu jdD jaR jcB jcC jbo jbp jbk jbj jbe jbq jef jbm jbi jcd jaT jbb jbr jaR jfc jbb cyI jbQ a2 cyJ n2 f2) sz) := by
  refine va_MetW (cc := cL_bouts) (maxL := 4) (ret := (some .int)) (by decide) rfl ?_
  intro p e s m args below meth c s₁ B hml hv
  obtain ⟨rfl, hsz, hP, hK, hD0, hNw, hXl, hXu, hXn, hXt⟩ := hv
  have hx := B.exec
  have hb := B.bytes
  have hr := B.returns
  have hts := atoms_spec (ws := wsL_bouts) B.pre
  have hown : s.vm.findClass RL = some m.cls := findClass_of_methodNamed B.named
  have hlocks := B.notSynchronized
  subst hsz
  have hD := hD0.self (sz := s.heap.size)
  generalize hAe : va_A (qYG a0 jaK jaR ja1 jcp jbc jbV ja3 jbH jaT jbO jaq jac jbI jbl jbn jba jaa jdu jdD jaR jcB jcC jbo jbp jbk jbj jbe jbq jef jbm jbi jcd jaT jbb jbr jaR jfc jbb cyI jbQ a2 cyJ n2 f2) s.heap.size = A at hD hXu hXn ⊢
  have hA : ∀ q : Nat, s.heap.size ≤ q → A q := fun q h => by rw [← hAe]; exact Or.inr h
  have hS : va_S A s.heap s.heap [] := va_S.rf
  have hP : va_P (dC, dI) vwCl (qYG a0 jaK jaR ja1 jcp jbc jbV ja3 jbH jaT jbO jaq jac jbI jbl jbn jba jaa jdu jdD jaR jcB jcC jbo jbp jbk jbj jbe jbq jef jbm jbi jcd jaT jbb jbr jaR jfc jbb cyI jbQ a2 cyJ n2 f2) s.heap := hP
  have hl := lv_entry ([.ref a0, .int p1, .ref a2]) (n := 4) (nbq rfl)
  rw [lg_entry_eq]
  generalize (lg_sl ([.ref a0, .int p1, .ref a2]) ++ List.replicate (4 - (lg_sl ([.ref a0, .int p1, .ref a2])).length) Slot.unset).toArray = ls at hl ⊢
  have hl : lv_has ls 4 [(0, .ref a0), (1, .int p1), (2, .ref a2)] := hl
  have hY : cfY l s A := ⟨hXl, hXu, hXn, hXt⟩
  have hTb := vx_table (x := yL_bouts) B (hts _ qaRI)
  clear hAe
  obtain ⟨H, hH⟩ : ∃ H, H = s.heap := ⟨_, rfl⟩
  rw [← hH] at hP ⊢
  have hS : va_S A s.heap H [] := by rw [hH]; exact va_S.rf
  have hS := hS
  refine lv_aload_n hx hb (qaa qrh 0 rfl) rfl (lv_at hl 2 rfl) ?_
  refine lv_iconst (v := 0) hx hb (qaa qrh 1 rfl) (by decide) ?_
  refine lv_aload_n hx hb (qaa qrh 2 rfl) rfl (lv_at hl 0 rfl) ?_
  refine lv_iload_n hx hb (qaa qrh 3 rfl) rfl (lv_at hl 1 rfl) ?_
  obtain ⟨hCc, hPc, hDc, hFc⟩ := qac (ws' := (quT a0 jaK jaR ja1 jcp jbc jbV ja3 jbH jaT jbO jaq jac jbI jbl jbn jba jaa jdu jdD jaR jcB jcC jbo jbp jbk jbj jbe jbq jef jbm jbi jcd jaT jbb jbr jaR jfc jbb cyI jbQ)) hP hD hS hA [0, 1, 2, 3] (by decide +kernel) rfl
  refine vx_calli (vx_runV (As := [.int p1]) (rest := [.int 0, .ref a2]) ⟨hx, hb, hml, hown, hts⟩ (qaV9 l dC dI cyB cyI cyJ cyP a0 jaR jaT jbb H.size (jaK) (ja1) (jcp) (jbc) (jbV) (ja3) (jbH) (jbO) (jaq) (jac) (jbI) (jbl) (jbn) (jba) (jaa) (jdD) (jcB) (jcC) (jbo) (jbp) (jbk) (jbj) (jbe) (jbq) (jef) (jbi) (jcd) (jbr) (jfc) jbm jbQ jdu p1 hw) (cwV 1 hts gL_bouts_X10_bouts rfl rfl rfl (by decide +kernel) ⟨nbq rfl, nbq rfl⟩) ⟨qau, va_recv (q := (RX10, TX10, 19)) hK hPc (ci := 10) (q0 := 0) rfl rfl, qbk hPc hK hDc hNw hY hS hFc⟩ rfl rfl hl.1 rfl (lv_room (nbq rfl)) (qaa qrh 4 rfl) ⟨nbq rfl, nbq rfl⟩) hS (fun q _ h => hFc q h) hFc (fun q _ h => hFc q h) (fun en ce qx9 u t H1 locs ht hvm hpx hB hz1 hk1 hS hc9 hv9 hcl9 => ?_) (fun r2 u t H1 locs ht hvm hw hB hz1 hk1 hS => ?_)
  · obtain ⟨x1, rfl⟩ : ∃ z, z = u := ⟨_, rfl⟩
    obtain ⟨hw, hP1, hK1, hD1⟩ := hB
    rw [ht] at hP1
    obtain ⟨hP, hD⟩ := qad (wr := [(a2, .inl (cyJ, n2, .inr (.inl f2)))]) (w1 := (quT a0 jaK jaR ja1 jcp jbc jbV ja3 jbH jaT jbO jaq jac jbI jbl jbn jba jaa x1 jdD jaR jcB jcC jbo jbp jbk jbj jbe jbq jef jbm jbi jcd jaT jbb jbr jaR jfc jbb cyI jbQ)) (wn := (qYG a0 jaK jaR ja1 jcp jbc jbV ja3 jbH jaT jbO jaq jac jbI jbl jbn jba jaa x1 jdD jaR jcB jcC jbo jbp jbk jbj jbe jbq jef jbm jbi jcd jaT jbb jbr jaR jfc jbb cyI jbQ a2 cyJ n2 f2)) hP hD [0, 1, 2, 3] [4] [1, 2, 3, 4, 0] hCc rfl (by decide +kernel) (by decide +kernel) (by decide +kernel) rfl hk1 hFc hP1 hD1
    generalize H1 = H at hP hS hc9 ⊢
    obtain ⟨rfl, hw⟩ := hw
    refine vx_catch (own := RL) (name := "java/util/NoSuchElementException") hown [] ⟨0, 9, 12, 31⟩ [] (hTb.trans rfl) (fun z hz => nomatch hz) (by decide) (by decide) (hts _ qazW) (va_Nw.use rfl (hY.2.2.2.1.2 _ (List.mem_of_getElem? (i := 1) rfl))) hc9 hv9 hcl9 ?_
    refine lv_astore_n (lv' := [(3, .ref qx9), (0, .ref a0), (1, .int p1), (2, .ref a2)]) hx hb (qaa qrh 8 rfl) rfl hl (by decide) rfl (fun ls hl => ?_)
    refine lv_iconst (v := 1) hx hb (qaa qrh 9 rfl) (by decide) ?_
    exact (W.widen (k := 1) (n := 6) (nbq rfl) (nbq rfl) (W.iret (v := 1) hx hb hr (fun t ht hW => ⟨⟨1, (x1, f2), rfl, hw, by rw [ht]; exact hP, va_K.moved hW.alike hK, hD⟩, hS.F ht⟩) hS.2.2 (qaa qrh 10 rfl)))
  obtain ⟨x1, rfl⟩ : ∃ z, z = u := ⟨_, rfl⟩
  obtain ⟨hP1, hK1, hD1⟩ := hB
  rw [ht] at hP1
  obtain ⟨hP, hD⟩ := va_join (wr := [(a2, .inl (cyJ, n2, .inr (.inl f2)))]) (w1 := (quT a0 jaK jaR ja1 jcp jbc jbV ja3 jbH jaT jbO jaq jac jbI jbl jbn jba jaa x1 jdD jaR jcB jcC jbo jbp jbk jbj jbe jbq jef jbm jbi jcd jaT jbb jbr jaR jfc jbb cyI jbQ)) hP hD [0, 1, 2, 3] [4] rfl rfl (by decide) (by decide) hk1 hFc hP1 hD1
  have hP : va_P (dC, dI) vwCl (qYG a0 jaK jaR ja1 jcp jbc jbV ja3 jbH jaT jbO jaq jac jbI jbl jbn jba jaa x1 jdD jaR jcB jcC jbo jbp jbk jbj jbe jbq jef jbm jbi jcd jaT jbb jbr jaR jfc jbb cyI jbQ a2 cyJ n2 f2) H1 := hP.sub [1, 2, 3, 4, 0] rfl
  have hD : va_D A (qYG a0 jaK jaR ja1 jcp jbc jbV ja3 jbH jaT jbO jaq jac jbI jbl jbn jba jaa x1 jdD jaR jcB jcC jbo jbp jbk jbj jbe jbq jef jbm jbi jcd jaT jbb jbr jaR jfc jbb cyI jbQ a2 cyJ n2 f2) := hD.sub [1, 2, 3, 4, 0] (by decide) rfl
  generalize H1 = H at hP hS ⊢
  refine lv_i2l (v := r2.toInt64) hx hb (qaa qrh 5 rfl) rfl ?_
  refine lv_topl (fun x3 ex3 => ?_)
  have hw := hw x3 ex3
  obtain ⟨hi9, hw⟩ := hw
  refine va_last hx hb hK hP hD hS 4 2 rfl rfl hi9 (qaa qrh 6 rfl) (fun H locs hP hD hS => ?_)
  obtain ⟨f4, ef4⟩ : ∃ y : Nat → Int64, y = vp_updL f2 (0 : Int32).toNatClampNeg x3 := ⟨_, rfl⟩
  have hw := hw f4 ef4
  have hP : va_P (dC, dI) vwCl (qYG a0 jaK jaR ja1 jcp jbc jbV ja3 jbH jaT jbO jaq jac jbI jbl jbn jba jaa x1 jdD jaR jcB jcC jbo jbp jbk jbj jbe jbq jef jbm jbi jcd jaT jbb jbr jaR jfc jbb cyI jbQ a2 cyJ n2 f4) H := by rw [ef4]; exact hP
  have hD : va_D A (qYG a0 jaK jaR ja1 jcp jbc jbV ja3 jbH jaT jbO jaq jac jbI jbl jbn jba jaa x1 jdD jaR jcB jcC jbo jbp jbk jbj jbe jbq jef jbm jbi jcd jaT jbb jbr jaR jfc jbb cyI jbQ a2 cyJ n2 f4) := by rw [ef4]; exact hD
  refine lv_goto (tgt := 15) hx hb (qaa qrh 7 rfl) (by decide) ?_
  refine lv_iconst (v := 0) hx hb (qaa qrh 11 rfl) (by decide) ?_
  exact (W.widen (k := 1) (n := 6) (nbq rfl) (nbq rfl) (W.iret (v := 0) hx hb hr (fun t ht hW => ⟨⟨0, (x1, f4), rfl, hw, by rw [ht]; exact hP, va_K.moved hW.alike hK, hD⟩, hS.F ht⟩) hS.2.2 (qaa qrh 12 rfl)))
theorem q84 : ∀ w ∈ (qqA RX10 268 "java/util/NoSuchElementException" 13 qxN ["java/lang/RuntimeException", "java/lang/Exception"]).filter (fun w => !goodWord w), w ∈ xB := by decide +kernel
theorem q8t : ∀ w ∈ Cond.classLink RX10 264 "java/util/NoSuchElementException" :: Cond.initialized "java/util/NoSuchElementException" :: qqA RX10 268 "java/util/NoSuchElementException" 13 qxN ["java/lang/RuntimeException", "java/lang/Exception"], vx_ot w = true := by decide +kernel
theorem q8x : ∀ w ∈ (qqA RX10 268 "java/util/NoSuchElementException" 13 qxN ["java/lang/RuntimeException", "java/lang/Exception"]).filter goodWord, w ∈ wsX10_needForm := by decide +kernel
theorem qFc : ∀ w ∈ u_ws RX10 TX10 19, w ∈ wsX10_needForm := uiM qtC qyE (by decide +kernel)
theorem qaeH : ∀ w ∈ u_ws RX2 TX2 12, w ∈ wsX10_needForm := uiM qtC qLg (by decide +kernel)
theorem q4l : (.classLink RX10 264 "java/util/NoSuchElementException" : Cond) ∈ wsX10_needForm := qtC 2690 (by decide +kernel)
theorem q53 : (.fieldLink RX10 149 "MarchHares$Down" "forms" "I" : Cond) ∈ wsX10_needForm := qtC 1557 (by decide +kernel)
theorem q9m : (.fieldLink RX10 19 "MarchHares" "ground" "LMarchHares$Down;" : Cond) ∈ wsX10_needForm := qtC 20 (by decide +kernel)
theorem qNt : (.fieldLink RX10 261 "MarchHares" "callsNoSuch" "I" : Cond) ∈ wsX10_needForm := qtC 2692 (by decide +kernel)
theorem q0n : (.initialized "java/util/NoSuchElementException" : Cond) ∈ wsX10_needForm := qtC 2691 (by decide +kernel)
set_option maxHeartbeats 4000000 in
set_option maxRecDepth 100000 in
theorem qyK (l : Launch) (dC : Nat → ClassId) (dI : Nat → Nat → Nat) (cyB cyI cyJ cyP : ClassId) (a0 jaR sz : Nat) (jaK ja1 jcp jbc jbV ja3 jbH ja2 jbO jaq jac jbI jbl jbn jba jaa jdD jcB jcC jbo jbp jbk jbj jbe jbq jgP jbi jcd : Value) (jbE jdu p1 : Int32) {E : String → Int32 → Prop} {Q : Int32 → Prop} (hw : qtT jbE jdu p1 E Q) : vx_Met l yX10_needForm wsX10_needForm ({ frames := 6, cells := 1, slots := 6, locals := 120 }) (va_Pc [.ref a0, .int p1] (cPx l (dC, dI) (kT cyB cyI cyJ cyP) (qSj a0 jaK jaR ja1 jcp jbc jbV ja3 jbH ja2 jbO jaq jac jbI jbl jbn jba jaa jdu jdD jaR jcB jcC jbo jbp jbk jbj jbe jbq jbE jgP jbi jcd) sz)) (va_Qv (fun (u : Int32) => Q u) (cB (dC, dI) (kT cyB cyI cyJ cyP) (va_A (qSj a0 jaK jaR ja1 jcp jbc jbV ja3 jbH ja2 jbO jaq jac jbI jbl jbn jba jaa jdu jdD jaR jcB jcC jbo jbp jbk jbj jbe jbq jbE jgP jbi jcd) sz) (fun u : Int32 => ((qSj a0 jaK jaR ja1 jcp jbc jbV ja3 jbH ja2 jbO jaq jac jbI jbl jbn jba jaa u jdD jaR jcB jcC jbo jbp jbk jbj jbe jbq jbE jgP jbi jcd) : va_W))) (va_A (qSj a0 jaK jaR ja1 jcp jbc jbV ja3 jbH ja2 jbO jaq jac jbI jbl jbn jba jaa jdu jdD jaR jcB jcC jbo jbp jbk jbj jbe jbq jbE jgP jbi jcd) sz)) (vx_X (fun _ => True) (fun (en : String) (u : Int32) (t : State) => E en u ∧ cB (dC, dI) (kT cyB cyI cyJ cyP) (va_A (qSj a0 jaK jaR ja1 jcp jbc jbV ja3 jbH ja2 jbO jaq jac jbI jbl jbn jba jaa jdu jdD jaR jcB jcC jbo jbp jbk jbj jbe jbq jbE jgP jbi jcd) sz) (fun u : Int32 => ((qSj a0 jaK jaR ja1 jcp jbc jbV ja3 jbH ja2 jbO jaq jac jbI jbl jbn jba jaa u jdD jaR jcB jcC jbo jbp jbk jbj jbe jbq jbE jgP jbi jcd) : va_W)) u t) (va_A (qSj a0 jaK jaR ja1 jcp jbc jbV ja3 jbH ja2 jbO jaq jac jbI jbl jbn jba jaa jdu jdD jaR jcB jcC jbo jbp jbk jbj jbe jbq jbE jgP jbi jcd) sz)) 1 6 (va_A (qSj a0 jaK jaR ja1 jcp jbc jbV ja3 jbH ja2 jbO jaq jac jbI jbl jbn jba jaa jdu jdD jaR jcB jcC jbo jbp jbk jbj jbe jbq jbE jgP jbi jcd) sz) := by
  refine vx_ofW (cc := cX10_needForm) (maxL := 2) (ret := none) (by decide) rfl ?_
  intro p e s m args below meth c s₁ B hml hnt hv
  obtain ⟨rfl, hsz, hP, hK, hD0, hNw, hXl, hXu, hXn, hXt⟩ := hv
  have hx := B.exec
  have hb := B.bytes
  have hr := B.returns
  have hts := atoms_spec (ws := wsX10_needForm) B.pre
  have hown : s.vm.findClass RX10 = some m.cls := findClass_of_methodNamed B.named
  have hlocks := B.notSynchronized
  subst hsz
  have hD := hD0.self (sz := s.heap.size)
  generalize hAe : va_A (qSj a0 jaK jaR ja1 jcp jbc jbV ja3 jbH ja2 jbO jaq jac jbI jbl jbn jba jaa jdu jdD jaR jcB jcC jbo jbp jbk jbj jbe jbq jbE jgP jbi jcd) s.heap.size = A at hD hXu hXn ⊢
  have hA : ∀ q : Nat, s.heap.size ≤ q → A q := fun q h => by rw [← hAe]; exact Or.inr h
  have hS : va_S A s.heap s.heap [] := va_S.rf
  have hP : va_P (dC, dI) vwCl (qSj a0 jaK jaR ja1 jcp jbc jbV ja3 jbH ja2 jbO jaq jac jbI jbl jbn jba jaa jdu jdD jaR jcB jcC jbo jbp jbk jbj jbe jbq jbE jgP jbi jcd) s.heap := hP
  have hl := lv_entry ([.ref a0, .int p1]) (n := 2) (nbq rfl)
  rw [lg_entry_eq]
  generalize (lg_sl ([.ref a0, .int p1]) ++ List.replicate (2 - (lg_sl ([.ref a0, .int p1])).length) Slot.unset).toArray = ls at hl ⊢
  have hl : lv_has ls 2 [(0, .ref a0), (1, .int p1)] := hl
  have hY : cfY l s A := ⟨hXl, hXu, hXn, hXt⟩
  have hXs : cfX l s c A := ⟨hnt, hY⟩
  have C0 : cfx p s m _ meth c cX10_needForm none wsX10_needForm RX10 2 A (dC, dI) (kT cyB cyI cyJ cyP) ∧ cfX l s c A := ⟨⟨hx, hb, hr, hts, hown, hlocks, hml, hA, hK, hNw⟩, hXs⟩
  clear hAe
  obtain ⟨H, hH⟩ : ∃ H, H = s.heap := ⟨_, rfl⟩
  rw [← hH] at hP ⊢
  have hS : va_S A s.heap H [] := by rw [hH]; exact va_S.rf
  have hS := hS
  refine lv_iload_n hx hb (qaa qeu 0 rfl) rfl (lv_at hl 1 rfl) ?_
  refine lv_iconst (v := 0) hx hb (qaa qeu 1 rfl) (by decide) ?_
  refine lv_aload_n hx hb (qaa qeu 2 rfl) rfl (lv_at hl 0 rfl) ?_
  refine va_get (D := (dC, dI)) (ci := 10) (v := .ref jaR) (C := RX10) (T := TX10) (N := 19) hx hb hts qFc hown hK hP 0 rfl rfl 1 (by decide) (hts _ q9m) (fun _ h9 => h9) rfl (qaa qeu 3 rfl) ?_
  refine va_get (D := (dC, dI)) (ci := 2) (v := .int jbE) (C := RX2) (T := TX2) (N := 12) hx hb hts qaeH hown hK hP 1 rfl rfl 8 (by decide) (hts _ q53) (fun _ h9 => h9) rfl (qaa qeu 4 rfl) ?_
  refine lv_iconst (v := 1) hx hb (qaa qeu 5 rfl) (by decide) ?_
  refine lv_isub hx hb (qaa qeu 6 rfl) ?_
  obtain ⟨hCc, hPc, hDc, hFc⟩ := qac (ws' := []) hP hD hS hA [] (by decide +kernel) rfl
  refine va_calli (va_runS (As := [.int p1, .int 0, .int (jbE - 1)]) (rest := []) ⟨hx, hb, hml, hown, hts⟩ (qzJ l dC dI cyB cyI cyJ cyP H.size p1 0 (jbE - 1) hw) (va_cwS 3 hts gX10_needForm_X10_within rfl rfl rfl (by decide +kernel) ⟨nbq rfl, nbq rfl⟩) ⟨qab, qae hPc hK hDc hNw⟩ rfl rfl hl.1 rfl (lv_room (nbq rfl)) (qaa qeu 7 rfl) ⟨nbq rfl, nbq rfl⟩) hS (fun q _ h => hFc q h) hFc (fun r1 u t H1 locs ht hvm hw hB hz1 hk1 hS => ?_)
  obtain ⟨hP1, hK1, hD1⟩ := hB
  rw [ht] at hP1
  obtain ⟨hP, hD⟩ := qah (wr := (qSj a0 jaK jaR ja1 jcp jbc jbV ja3 jbH ja2 jbO jaq jac jbI jbl jbn jba jaa jdu jdD jaR jcB jcC jbo jbp jbk jbj jbe jbq jbE jgP jbi jcd)) (w1 := []) (wn := (qSj a0 jaK jaR ja1 jcp jbc jbV ja3 jbH ja2 jbO jaq jac jbI jbl jbn jba jaa jdu jdD jaR jcB jcC jbo jbp jbk jbj jbe jbq jbE jgP jbi jcd)) hP hD [] [0, 1] hCc rfl (by decide +kernel) (by decide +kernel) rfl hk1 hFc hP1 hD1
  generalize H1 = H at hP hS ⊢
  refine lv_if_ne (tgt := 38) hx hb (qaa qeu 8 rfl) (by decide) (fun c2 => ?_) (fun c2 => ?_)
  · have hw := hw.1 c2
    exact vx_ret (W.widen (k := 1) (n := 6) (nbq rfl) (nbq rfl) (W.vret hx hb hr (fun t ht hW => ⟨⟨(jdu), rfl, hw, by rw [ht]; exact hP, va_K.moved hW.alike hK, hD⟩, hS.F ht⟩) hS.2.2 (qaa qxi 4 rfl)))
  · have hw := hw.2 c2
    refine lv_aload_n hx hb (qaa qeu 9 rfl) rfl (lv_at hl 0 rfl) ?_
    refine lv_dup hx hb (qaa qeu 10 rfl) rfl ?_
    refine va_get (D := (dC, dI)) (ci := 10) (v := .int jdu) (C := RX10) (T := TX10) (N := 19) hx hb hts qFc hown hK hP 0 rfl rfl 17 (by decide) (hts _ qNt) (fun _ h9 => h9) rfl (qaa qeu 11 rfl) ?_
    refine lv_iconst (v := 1) hx hb (qaa qeu 12 rfl) (by decide) ?_
    refine lv_iadd hx hb (qaa qeu 13 rfl) ?_
    refine lv_topi (fun x3 ex3 => ?_)
    have hw := hw x3 ex3
    refine va_put (D := (dC, dI)) (ci := 10) (v := .int x3) (ty := .int) (C := RX10) (T := TX10) (N := 19) hx hb hts qFc tyX10 tyX10_ok nmX10 hown hK hP hD hS 0 rfl rfl 17 (by decide) (hts _ qNt) (fun _ h9 => h9) rfl (by decide +kernel) rfl rfl (nbq rfl) (qaa qeu 14 rfl) (fun H locs hP hD hS => ?_)
    have hP : va_P (dC, dI) vwCl (qSj a0 jaK jaR ja1 jcp jbc jbV ja3 jbH ja2 jbO jaq jac jbI jbl jbn jba jaa x3 jdD jaR jcB jcC jbo jbp jbk jbj jbe jbq jbE jgP jbi jcd) H := hP
    have hD : va_D A (qSj a0 jaK jaR ja1 jcp jbc jbV ja3 jbH ja2 jbO jaq jac jbI jbl jbn jba jaa x3 jdD jaR jcB jcC jbo jbp jbk jbj jbe jbq jbE jgP jbi jcd) := hD
    obtain ⟨sa9, hsa9⟩ := hY.2.2.2.2.1 _ (List.mem_of_getElem? (i := 0) rfl)
    exact qanc hx hb hY.1 (own := RX10) (cls := "java/util/NoSuchElementException") (names := ["java/lang/RuntimeException", "java/lang/Exception"]) (ik := 264) (is := 401) (ic := 268) (rx := qxN) (by decide +kernel) (by decide +kernel) (by decide +kernel) (by decide +kernel) hown (by decide +kernel) (by decide +kernel) (hts _ q4l) (hts _ q0n) hsa9 (vx_hat (fun w hw9 => hts w (q8x w hw9)) q84 (qa0g hY.2.2.2.1)) q8t hY.2.1 hY.2.2.1 hS (by rw [hml]; exact hl.1) (qaa qeu 15 rfl) (qaa qxi 0 rfl) (qaa qxi 1 rfl) (qaa qxi 2 rfl) (qaa qxi 3 rfl) (fun x hx9 => (hXs.1 x hx9).elim) (nbq rfl) (nbq rfl) (nbq rfl) (nbq rfl) hlocks (fun t hal hsz9 hq9 => ⟨(x3), trivial, ⟨hw, hP.kept (fun k q hk9 => hq9 _ ((hP k q hk9).lt)), va_K.moved hal hK, hD⟩, qau2 hS hsz9 hq9⟩) hS.2.2 (nbq rfl) (nbq rfl)
theorem qKI : ∀ w ∈ u_ws RX2 TX2 12, w ∈ wsX2_apart := uiM qJv qLg (by decide +kernel)
theorem q3R : (.fieldLink RX2 15 "MarchHares$Down" "formY" "[I" : Cond) ∈ wsX2_apart := qJv 149 (by decide +kernel)
theorem q8c : (.fieldLink RX2 9 "MarchHares$Down" "formX" "[I" : Cond) ∈ wsX2_apart := qJv 148 (by decide +kernel)
theorem qY6 : (.initialized "java/lang/Math" : Cond) ∈ wsX2_apart := qJv 651 (by decide +kernel)
theorem qYS : (.methodLink RX2 108 Lib.Math.abs.name : Cond) ∈ wsX2_apart := qJv 1092 (by decide +kernel)
theorem qVV : (.code Lib.Math.abs.name Lib.Math.abs.code 1 (some .int) : Cond) ∈ wsX2_apart := qJv 1094 (by decide +kernel)
theorem qVs : (.static Lib.Math.abs.name : Cond) ∈ wsX2_apart := qJv 1093 (by decide +kernel)
set_option maxHeartbeats 4000000 in
set_option maxRecDepth 100000 in
theorem qCj (l : Launch) (dC : Nat → ClassId) (dI : Nat → Nat → Nat) (cyB cyI cyJ cyP : ClassId) (a0 jha jhi sz : Nat) (jlc jld jkJ jiT jj1 jjT ja0 ja4 jaP jkk : Value) (jiR jiP : NI) (p1 p2 : Int32) {Q : Int32 → Prop} (hw : qvR jiR jiP p1 p2 Q) : Met l yX2_apart wsX2_apart ({ frames := 1, cells := 0, slots := 0, locals := 32 }) (va_Pc [.ref a0, .int p1, .int p2] (cPc (dC, dI) (kT cyB cyI cyJ cyP) (qayk a0 jha jhi jlc jld jkJ jiT jj1 jjT ja0 ja4 jaP jkk jha cyI jiR jhi cyI jiP) sz)) (va_Qi (fun (r : Int32) (_ : Unit) => Q r ) (cB (dC, dI) (kT cyB cyI cyJ cyP) (va_A (qayk a0 jha jhi jlc jld jkJ jiT jj1 jjT ja0 ja4 jaP jkk jha cyI jiR jhi cyI jiP) sz) (fun u : Unit => ((qayk a0 jha jhi jlc jld jkJ jiT jj1 jjT ja0 ja4 jaP jkk jha cyI jiR jhi cyI jiP) : va_W))) (va_A (qayk a0 jha jhi jlc jld jkJ jiT jj1 jjT ja0 ja4 jaP jkk jha cyI jiR jhi cyI jiP) sz)) 0 0 (va_A (qayk a0 jha jhi jlc jld jkJ jiT jj1 jjT ja0 ja4 jaP jkk jha cyI jiR jhi cyI jiP) sz) := by
  refine Met.ofW (cc := cX2_apart) (maxL := 3) (ret := (some .int)) (by decide) rfl ?_
  intro p e s m args below meth c s₁ B hml hv
  obtain ⟨rfl, hsz, hP, hK, hD0, hNw⟩ := hv
  have hx := B.exec
  have hb := B.bytes
  have hr := B.returns
  have hts := atoms_spec (ws := wsX2_apart) B.pre
  have hown : s.vm.findClass RX2 = some m.cls := findClass_of_methodNamed B.named
  have hlocks := B.notSynchronized
  subst hsz
  have hD := hD0.self (sz := s.heap.size)
  generalize hAe : va_A (qayk a0 jha jhi jlc jld jkJ jiT jj1 jjT ja0 ja4 jaP jkk jha cyI jiR jhi cyI jiP) s.heap.size = A at hD ⊢
  have hA : ∀ q : Nat, s.heap.size ≤ q → A q := fun q h => by rw [← hAe]; exact Or.inr h
  have hS : va_S A s.heap s.heap [] := va_S.rf
  have hP : va_P (dC, dI) vwCl (qayk a0 jha jhi jlc jld jkJ jiT jj1 jjT ja0 ja4 jaP jkk jha cyI jiR jhi cyI jiP) s.heap := hP
  have hl := lv_entry ([.ref a0, .int p1, .int p2]) (n := 3) (nbq rfl)
  rw [lg_entry_eq]
  generalize (lg_sl ([.ref a0, .int p1, .int p2]) ++ List.replicate (3 - (lg_sl ([.ref a0, .int p1, .int p2])).length) Slot.unset).toArray = ls at hl ⊢
  have hl : lv_has ls 3 [(0, .ref a0), (1, .int p1), (2, .int p2)] := hl
  have C0 : cfx p s m _ meth c cX2_apart (some .int) wsX2_apart RX2 3 A (dC, dI) (kT cyB cyI cyJ cyP) := ⟨hx, hb, hr, hts, hown, hlocks, hml, hA, hK, hNw⟩
  clear hAe
  obtain ⟨H, hH⟩ : ∃ H, H = s.heap := ⟨_, rfl⟩
  rw [← hH] at hP ⊢
  have hS : va_S A s.heap H [] := by rw [hH]; exact va_S.rf
  have hS := hS
  refine lv_aload_n hx hb (qaa qll 0 rfl) rfl (lv_at hl 0 rfl) ?_
  refine va_get (D := (dC, dI)) (ci := 2) (v := .ref jha) (C := RX2) (T := TX2) (N := 12) hx hb hts qKI hown hK hP 0 rfl rfl 0 (by decide) (hts _ q8c) (fun _ h9 => h9) rfl (qaa qll 1 rfl) ?_
  refine lv_iload_n hx hb (qaa qll 2 rfl) rfl (lv_at hl 1 rfl) ?_
  obtain ⟨hi9, hw⟩ := hw
  refine va_iald hx hb hK hP 1 1 rfl rfl hi9 (qaa qll 3 rfl) ?_
  refine lv_topi (fun x1 ex1 => ?_)
  have hw := hw x1 ex1
  refine lv_aload_n hx hb (qaa qll 4 rfl) rfl (lv_at hl 0 rfl) ?_
  refine va_get (D := (dC, dI)) (ci := 2) (v := .ref jha) (C := RX2) (T := TX2) (N := 12) hx hb hts qKI hown hK hP 0 rfl rfl 0 (by decide) (hts _ q8c) (fun _ h9 => h9) rfl (qaa qll 5 rfl) ?_
  refine lv_iload_n hx hb (qaa qll 6 rfl) rfl (lv_at hl 2 rfl) ?_
  obtain ⟨hi9, hw⟩ := hw
  refine va_iald hx hb hK hP 1 1 rfl rfl hi9 (qaa qll 7 rfl) ?_
  refine lv_topi (fun x2 ex2 => ?_)
  have hw := hw x2 ex2
  refine lv_isub hx hb (qaa qll 8 rfl) ?_
  refine va_mabs hx hb (by rw [hml]; exact hl.1.symm) hown (hts _ qYS) (hts _ qVs) (hts _ qY6) (hts _ qVV) (nbq rfl) (nbq rfl) (nbq rfl) (nbq rfl) (qaa qll 9 rfl) ?_
  refine lv_topi (fun x3 ex3 => ?_)
  have hw := hw x3 ex3
  refine lv_aload_n hx hb (qaa qll 10 rfl) rfl (lv_at hl 0 rfl) ?_
  refine va_get (D := (dC, dI)) (ci := 2) (v := .ref jhi) (C := RX2) (T := TX2) (N := 12) hx hb hts qKI hown hK hP 0 rfl rfl 1 (by decide) (hts _ q3R) (fun _ h9 => h9) rfl (qaa qll 11 rfl) ?_
  refine lv_iload_n hx hb (qaa qll 12 rfl) rfl (lv_at hl 1 rfl) ?_
  obtain ⟨hi9, hw⟩ := hw
  refine va_iald hx hb hK hP 2 1 rfl rfl hi9 (qaa qll 13 rfl) ?_
  refine lv_topi (fun x4 ex4 => ?_)
  have hw := hw x4 ex4
  refine lv_aload_n hx hb (qaa qll 14 rfl) rfl (lv_at hl 0 rfl) ?_
  refine va_get (D := (dC, dI)) (ci := 2) (v := .ref jhi) (C := RX2) (T := TX2) (N := 12) hx hb hts qKI hown hK hP 0 rfl rfl 1 (by decide) (hts _ q3R) (fun _ h9 => h9) rfl (qaa qll 15 rfl) ?_
  refine lv_iload_n hx hb (qaa qAw 0 rfl) rfl (lv_at hl 2 rfl) ?_
  obtain ⟨hi9, hw⟩ := hw
  refine va_iald hx hb hK hP 2 1 rfl rfl hi9 (qaa qAw 1 rfl) ?_
  refine lv_topi (fun x5 ex5 => ?_)
  have hw := hw x5 ex5
  refine lv_isub hx hb (qaa qAw 2 rfl) ?_
  refine va_mabs hx hb (by rw [hml]; exact hl.1.symm) hown (hts _ qYS) (hts _ qVs) (hts _ qY6) (hts _ qVV) (nbq rfl) (nbq rfl) (nbq rfl) (nbq rfl) (qaa qAw 3 rfl) ?_
  refine lv_topi (fun x6 ex6 => ?_)
  have hw := hw x6 ex6
  refine lv_iadd hx hb (qaa qAw 4 rfl) ?_
  exact ((W.iret (v := (x3 + x6)) hx hb hr (fun t ht hW => ⟨⟨(x3 + x6), (), rfl, hw, by rw [ht]; exact hP, va_K.moved hW.alike hK, hD⟩, hS.F ht⟩) hS.2.2 (qaa qAw 5 rfl)))
theorem qajj : ∀ w ∈ u_ws RX1 TX1 4, w ∈ wsX1_seatedIn := uiM qw5 qV8 (by decide +kernel)
theorem qalV : ∀ w ∈ u_ws RX2 TX2 12, w ∈ wsX1_seatedIn := uiM qw5 qLg (by decide +kernel)
theorem qagf : (.fieldLink RX1 24 "MarchHares$Days" "down" "LMarchHares$Down;" : Cond) ∈ wsX1_seatedIn := qw5 322 (by decide +kernel)
theorem qadV : (.fieldLink RX1 32 "MarchHares$Down" "hares" "I" : Cond) ∈ wsX1_seatedIn := qw5 324 (by decide +kernel)
set_option maxHeartbeats 4000000 in
set_option maxRecDepth 100000 in
theorem qJZ {p : Program} {l : Launch} {e : Env} {s : State} {m : MethodId} {args : Array Value} {below : List Frame} {meth : Method} {c : Code} {A : Nat → Prop} (dC : Nat → ClassId) (dI : Nat → Nat → Nat) (cyB cyI cyJ cyP : ClassId) (a0 jfB jch : Nat) (jcD jhx jhp jhq jgi jgj jgk jgz jfR jgl jgO jfS jiB : Value) (jc5 : Int32) (jdE : NI) (Q : Int32 → Prop) (K4 : Int32 → Int32 → Int32 → Prop) (hK4 : ∀ (H : Heap) (locs : List Loc) (ls : Array Slot) (l1 l2 l3 : Int32), va_P (dC, dI) vwCl (qv4 a0 jch jcD jfB jhx jfB jhp jhq jgi jgj jgk jgz jfR jgl jgO jc5 jfS jiB jch cyI jdE) H → va_D A (qv4 a0 jch jcD jfB jhx jfB jhp jhq jgi jgj jgk jgz jfR jgl jgO jc5 jfS jiB jch cyI jdE) → va_S A s.heap H locs → lv_has ls 4 [(0, .ref a0), (1, .int l1), (2, .int l2), (3, .int l3)] → K4 l1 l2 l3 → W p l e (headSpec wsX1_seatedIn ({ frames := 1, cells := 0, slots := 0, locals := 21 })).room s m args below meth c H locs 0 0 (MQ below (va_Qi (fun (r : Int32) (_ : Unit) => Q r ) (cB (dC, dI) (kT cyB cyI cyJ cyP) A (fun u : Unit => ((qv4 a0 jch jcD jfB jhx jfB jhp jhq jgi jgj jgk jgz jfR jgl jgO jc5 jfS jiB jch cyI jdE) : va_W))) A) args s 0 0 A) (F0 m 4 ls [])) (C0 : cfx p s m args meth c cX1_seatedIn (some .int) wsX1_seatedIn RX1 4 A (dC, dI) (kT cyB cyI cyJ cyP)) : ∀ (H : Heap) (locs : List Loc) (ls : Array Slot) (l1 l2 l3 : Int32), va_P (dC, dI) vwCl (qv4 a0 jch jcD jfB jhx jfB jhp jhq jgi jgj jgk jgz jfR jgl jgO jc5 jfS jiB jch cyI jdE) H → va_D A (qv4 a0 jch jcD jfB jhx jfB jhp jhq jgi jgj jgk jgz jfR jgl jgO jc5 jfS jiB jch cyI jdE) → va_S A s.heap H locs → lv_has ls 4 [(0, .ref a0), (1, .int l1), (2, .int l2), (3, .int l3)] → qCC jc5 jdE Q K4 l1 l2 l3 → W p l e (headSpec wsX1_seatedIn ({ frames := 1, cells := 0, slots := 0, locals := 21 })).room s m args below meth c H locs 0 0 (MQ below (va_Qi (fun (r : Int32) (_ : Unit) => Q r ) (cB (dC, dI) (kT cyB cyI cyJ cyP) A (fun u : Unit => ((qv4 a0 jch jcD jfB jhx jfB jhp jhq jgi jgj jgk jgz jfR jgl jgO jc5 jfS jiB jch cyI jdE) : va_W))) A) args s 0 0 A) (F0 m 38 ls []) := by
  obtain ⟨hx, hb, hr, hts, hown, hlocks, hml, hA, hK, hNw⟩ := id C0
  intro H locs ls l1 l2 l3 hP hD hS hl hw
  obtain ⟨x7, ex7⟩ : ∃ y : Int32, y = l3 + 1 := ⟨_, rfl⟩
  have hw := hw x7 ex7
  refine lv_iinc (v := x7) (lv' := [(3, .int x7), (0, .ref a0), (1, .int l1), (2, .int l2)]) hx hb (qaa qkD 8 rfl) hl (k := 3) rfl (by rw [ex7]; rfl) (by decide) rfl (fun ls hl => ?_)
  refine lv_goto (tgt := 4) hx hb (qaa qkD 9 rfl) (by decide) ?_
  exact hK4 _ _ _ l1 l2 x7 hP hD hS (lv_sub hl [1, 2, 3, 0] rfl) hw
set_option maxHeartbeats 4000000 in
set_option maxRecDepth 100000 in
theorem qarH {p : Program} {l : Launch} {e : Env} {s : State} {m : MethodId} {args : Array Value} {below : List Frame} {meth : Method} {c : Code} {A : Nat → Prop} (dC : Nat → ClassId) (dI : Nat → Nat → Nat) (cyB cyI cyJ cyP : ClassId) (a0 jfB jch : Nat) (jcD jhx jhp jhq jgi jgj jgk jgz jfR jgl jgO jfS jiB : Value) (jc5 : Int32) (jdE : NI) (Q : Int32 → Prop) (C0 : cfx p s m args meth c cX1_seatedIn (some .int) wsX1_seatedIn RX1 4 A (dC, dI) (kT cyB cyI cyJ cyP)) : ∀ (n : Nat) (H : Heap) (locs : List Loc) (ls : Array Slot) (l1 l2 l3 : Int32), va_P (dC, dI) vwCl (qv4 a0 jch jcD jfB jhx jfB jhp jhq jgi jgj jgk jgz jfR jgl jgO jc5 jfS jiB jch cyI jdE) H → va_D A (qv4 a0 jch jcD jfB jhx jfB jhp jhq jgi jgj jgk jgz jfR jgl jgO jc5 jfS jiB jch cyI jdE) → va_S A s.heap H locs → lv_has ls 4 [(0, .ref a0), (1, .int l1), (2, .int l2), (3, .int l3)] → qnZ jc5 jdE Q n l1 l2 l3 → W p l e (headSpec wsX1_seatedIn ({ frames := 1, cells := 0, slots := 0, locals := 21 })).room s m args below meth c H locs 0 0 (MQ below (va_Qi (fun (r : Int32) (_ : Unit) => Q r ) (cB (dC, dI) (kT cyB cyI cyJ cyP) A (fun u : Unit => ((qv4 a0 jch jcD jfB jhx jfB jhp jhq jgi jgj jgk jgz jfR jgl jgO jc5 jfS jiB jch cyI jdE) : va_W))) A) args s 0 0 A) (F0 m 4 ls []) := by
  obtain ⟨hx, hb, hr, hts, hown, hlocks, hml, hA, hK, hNw⟩ := id C0
  intro n
  induction n with
  | zero => intro H locs ls l1 l2 l3 hP hD hS hl hw; exact False.elim hw
  | succ n ih =>
    intro H locs ls l1 l2 l3 hP hD hS hl hw
    refine lv_iload_n hx hb (qaa qfM 4 rfl) rfl (lv_at hl 3 rfl) ?_
    refine lv_aload_n hx hb (qaa qfM 5 rfl) rfl (lv_at hl 0 rfl) ?_
    refine va_get (D := (dC, dI)) (ci := 1) (v := .ref jfB) (C := RX1) (T := TX1) (N := 4) hx hb hts qajj hown hK hP 0 rfl rfl 2 (by decide) (hts _ qagf) (fun _ h9 => h9) rfl (qaa qfM 6 rfl) ?_
    refine va_get (D := (dC, dI)) (ci := 2) (v := .int jc5) (C := RX2) (T := TX2) (N := 12) hx hb hts qalV hown hK hP 1 rfl rfl 9 (by decide) (hts _ qadV) (fun _ h9 => h9) rfl (qaa qfM 7 rfl) ?_
    refine lv_icmp_ge (tgt := 44) hx hb (qaa qfM 8 rfl) (by decide) (fun c1 => ?_) (fun c1 => ?_)
    · have hw := hw.1 c1
      refine lv_iload_n hx hb (qaa qkD 10 rfl) rfl (lv_at hl 2 rfl) ?_
      exact ((W.iret (v := l2) hx hb hr (fun t ht hW => ⟨⟨l2, (), rfl, hw, by rw [ht]; exact hP, va_K.moved hW.alike hK, hD⟩, hS.F ht⟩) hS.2.2 (qaa qkD 11 rfl)))
    · have hw := hw.2 c1
      refine lv_aload_n hx hb (qaa qfM 9 rfl) rfl (lv_at hl 0 rfl) ?_
      refine lv_iload_n hx hb (qaa qfM 10 rfl) rfl (lv_at hl 3 rfl) ?_
      obtain ⟨hCc, hPc, hDc, hFc⟩ := qac (ws' := (qSm a0 jch jcD jfB jhx jch cyI jdE)) hP hD hS hA [0, 2] (by decide +kernel) rfl
      refine va_calli (va_runV (As := [.int l3]) (rest := []) ⟨hx, hb, hml, hown, hts⟩ (qh8 l dC dI cyB cyI cyJ cyP a0 jch H.size (jcD) (.ref jfB) (jhx) jdE l3 hw) (cwV 1 hts gX1_seatedIn_X1_isCaught rfl rfl rfl (by decide +kernel) ⟨nbq rfl, nbq rfl⟩) ⟨qab, va_recv (q := (RX1, TX1, 4)) hK hPc (ci := 1) (q0 := 0) rfl rfl, qae hPc hK hDc hNw⟩ rfl rfl hl.1 rfl (lv_room (nbq rfl)) (qaa qfM 11 rfl) ⟨nbq rfl, nbq rfl⟩) hS (fun q _ h => hFc q h) hFc (fun r2 u t H1 locs ht hvm hw hB hz1 hk1 hS => ?_)
      obtain ⟨hP1, hK1, hD1⟩ := hB
      rw [ht] at hP1
      obtain ⟨hP, hD⟩ := qad (wr := (qa5U jfB jhp jhq jgi jgj jgk jgz jfR jgl jgO jc5 jfS jiB)) (w1 := (qSm a0 jch jcD jfB jhx jch cyI jdE)) (wn := (qv4 a0 jch jcD jfB jhx jfB jhp jhq jgi jgj jgk jgz jfR jgl jgO jc5 jfS jiB jch cyI jdE)) hP hD [0, 2] [1] [1, 0, 2] hCc rfl (by decide +kernel) (by decide +kernel) (by decide +kernel) rfl hk1 hFc hP1 hD1
      generalize H1 = H at hP hS ⊢
      refine lv_if_ne (tgt := 38) hx hb (qaa qfM 12 rfl) (by decide) (fun c3 => ?_) (fun c3 => ?_)
      · have hw := hw.1 c3
        exact qJZ dC dI cyB cyI cyJ cyP a0 jfB jch jcD jhx jhp jhq jgi jgj jgk jgz jfR jgl jgO jfS jiB jc5 jdE Q (qnZ jc5 jdE Q n) ih C0 _ _ _ l1 l2 l3 hP hD hS (lv_sub hl [0, 1, 2, 3] rfl) hw
      · have hw := hw.2 c3
        refine lv_aload_n hx hb (qaa qfM 13 rfl) rfl (lv_at hl 0 rfl) ?_
        refine lv_iload_n hx hb (qaa qfM 14 rfl) rfl (lv_at hl 3 rfl) ?_
        obtain ⟨hCc, hPc, hDc, hFc⟩ := qac (ws' := (qSm a0 jch jcD jfB jhx jch cyI jdE)) hP hD hS hA [0, 2] (by decide +kernel) rfl
        refine va_calli (va_runV (As := [.int l3]) (rest := []) ⟨hx, hb, hml, hown, hts⟩ (qvC l dC dI cyB cyI cyJ cyP a0 jch H.size (jcD) (.ref jfB) (jhx) jdE l3 hw) (cwV 1 hts gX1_seatedIn_X1_sits rfl rfl rfl (by decide +kernel) ⟨nbq rfl, nbq rfl⟩) ⟨qab, va_recv (q := (RX1, TX1, 4)) hK hPc (ci := 1) (q0 := 0) rfl rfl, qae hPc hK hDc hNw⟩ rfl rfl hl.1 rfl (lv_room (nbq rfl)) (qaa qfM 15 rfl) ⟨nbq rfl, nbq rfl⟩) hS (fun q _ h => hFc q h) hFc (fun r4 u t H1 locs ht hvm hw hB hz1 hk1 hS => ?_)
        obtain ⟨hP1, hK1, hD1⟩ := hB
        rw [ht] at hP1
        obtain ⟨hP, hD⟩ := qad (wr := (qa5U jfB jhp jhq jgi jgj jgk jgz jfR jgl jgO jc5 jfS jiB)) (w1 := (qSm a0 jch jcD jfB jhx jch cyI jdE)) (wn := (qv4 a0 jch jcD jfB jhx jfB jhp jhq jgi jgj jgk jgz jfR jgl jgO jc5 jfS jiB jch cyI jdE)) hP hD [0, 2] [1] [1, 0, 2] hCc rfl (by decide +kernel) (by decide +kernel) (by decide +kernel) rfl hk1 hFc hP1 hD1
        generalize H1 = H at hP hS ⊢
        refine lv_iload_n hx hb (qaa qkD 0 rfl) rfl (lv_at hl 1 rfl) ?_
        refine lv_icmp_ne (tgt := 38) hx hb (qaa qkD 1 rfl) (by decide) (fun c5 => ?_) (fun c5 => ?_)
        · have hw := hw.1 c5
          exact qJZ dC dI cyB cyI cyJ cyP a0 jfB jch jcD jhx jhp jhq jgi jgj jgk jgz jfR jgl jgO jfS jiB jc5 jdE Q (qnZ jc5 jdE Q n) ih C0 _ _ _ l1 l2 l3 hP hD hS (lv_sub hl [0, 1, 2, 3] rfl) hw
        · have hw := hw.2 c5
          refine lv_iload_n hx hb (qaa qkD 2 rfl) rfl (lv_at hl 2 rfl) ?_
          refine lv_iconst (v := 1) hx hb (qaa qkD 3 rfl) (by decide) ?_
          refine lv_iload_n hx hb (qaa qkD 4 rfl) rfl (lv_at hl 3 rfl) ?_
          refine lv_ishl hx hb (qaa qkD 5 rfl) ?_
          refine lv_ior hx hb (qaa qkD 6 rfl) ?_
          refine lv_topi (fun x6 ex6 => ?_)
          have hw := hw x6 ex6
          refine lv_istore_n (lv' := [(2, .int x6), (0, .ref a0), (1, .int l1), (3, .int l3)]) hx hb (qaa qkD 7 rfl) rfl hl (by decide) rfl (fun ls hl => ?_)
          exact qJZ dC dI cyB cyI cyJ cyP a0 jfB jch jcD jhx jhp jhq jgi jgj jgk jgz jfR jgl jgO jfS jiB jc5 jdE Q (qnZ jc5 jdE Q n) ih C0 _ _ _ l1 x6 l3 hP hD hS (lv_sub hl [1, 2, 0, 3] rfl) hw
set_option maxHeartbeats 4000000 in
set_option maxRecDepth 100000 in
theorem qTQ (l : Launch) (dC : Nat → ClassId) (dI : Nat → Nat → Nat) (cyB cyI cyJ cyP : ClassId) (a0 jfB jch sz : Nat) (jcD jhx jhp jhq jgi jgj jgk jgz jfR jgl jgO jfS jiB : Value) (jc5 : Int32) (jdE : NI) (p1 : Int32) {Q : Int32 → Prop} (hw : qAt jc5 jdE p1 Q) : Met l yX1_seatedIn wsX1_seatedIn ({ frames := 1, cells := 0, slots := 0, locals := 21 }) (va_Pc [.ref a0, .int p1] (cPc (dC, dI) (kT cyB cyI cyJ cyP) (qv4 a0 jch jcD jfB jhx jfB jhp jhq jgi jgj jgk jgz jfR jgl jgO jc5 jfS jiB jch cyI jdE) sz)) (va_Qi (fun (r : Int32) (_ : Unit) => Q r ) (cB (dC, dI) (kT cyB cyI cyJ cyP) (va_A (qv4 a0 jch jcD jfB jhx jfB jhp jhq jgi jgj jgk jgz jfR jgl jgO jc5 jfS jiB jch cyI jdE) sz) (fun u : Unit => ((qv4 a0 jch jcD jfB jhx jfB jhp jhq jgi jgj jgk jgz jfR jgl jgO jc5 jfS jiB jch cyI jdE) : va_W))) (va_A (qv4 a0 jch jcD jfB jhx jfB jhp jhq jgi jgj jgk jgz jfR jgl jgO jc5 jfS jiB jch cyI jdE) sz)) 0 0 (va_A (qv4 a0 jch jcD jfB jhx jfB jhp jhq jgi jgj jgk jgz jfR jgl jgO jc5 jfS jiB jch cyI jdE) sz) := by
  refine Met.ofW (cc := cX1_seatedIn) (maxL := 4) (ret := (some .int)) (by decide) rfl ?_
  intro p e s m args below meth c s₁ B hml hv
  obtain ⟨rfl, hsz, hP, hK, hD0, hNw⟩ := hv
  have hx := B.exec
  have hb := B.bytes
  have hr := B.returns
  have hts := atoms_spec (ws := wsX1_seatedIn) B.pre
  have hown : s.vm.findClass RX1 = some m.cls := findClass_of_methodNamed B.named
  have hlocks := B.notSynchronized
  subst hsz
  have hD := hD0.self (sz := s.heap.size)
  generalize hAe : va_A (qv4 a0 jch jcD jfB jhx jfB jhp jhq jgi jgj jgk jgz jfR jgl jgO jc5 jfS jiB jch cyI jdE) s.heap.size = A at hD ⊢
  have hA : ∀ q : Nat, s.heap.size ≤ q → A q := fun q h => by rw [← hAe]; exact Or.inr h
  have hS : va_S A s.heap s.heap [] := va_S.rf
  have hP : va_P (dC, dI) vwCl (qv4 a0 jch jcD jfB jhx jfB jhp jhq jgi jgj jgk jgz jfR jgl jgO jc5 jfS jiB jch cyI jdE) s.heap := hP
  have hl := lv_entry ([.ref a0, .int p1]) (n := 4) (nbq rfl)
  rw [lg_entry_eq]
  generalize (lg_sl ([.ref a0, .int p1]) ++ List.replicate (4 - (lg_sl ([.ref a0, .int p1])).length) Slot.unset).toArray = ls at hl ⊢
  have hl : lv_has ls 4 [(0, .ref a0), (1, .int p1)] := hl
  have C0 : cfx p s m _ meth c cX1_seatedIn (some .int) wsX1_seatedIn RX1 4 A (dC, dI) (kT cyB cyI cyJ cyP) := ⟨hx, hb, hr, hts, hown, hlocks, hml, hA, hK, hNw⟩
  clear hAe
  obtain ⟨H, hH⟩ : ∃ H, H = s.heap := ⟨_, rfl⟩
  rw [← hH] at hP ⊢
  have hS : va_S A s.heap H [] := by rw [hH]; exact va_S.rf
  have hS := hS
  refine lv_iconst (v := 0) hx hb (qaa qfM 0 rfl) (by decide) ?_
  refine lv_istore_n (lv' := [(2, .int 0), (0, .ref a0), (1, .int p1)]) hx hb (qaa qfM 1 rfl) rfl hl (by decide) rfl (fun ls hl => ?_)
  refine lv_iconst (v := 0) hx hb (qaa qfM 2 rfl) (by decide) ?_
  refine lv_istore_n (lv' := [(3, .int 0), (2, .int 0), (0, .ref a0), (1, .int p1)]) hx hb (qaa qfM 3 rfl) rfl hl (by decide) rfl (fun ls hl => ?_)
  obtain ⟨n9, hw⟩ := hw
  exact qarH dC dI cyB cyI cyJ cyP a0 jfB jch jcD jhx jhp jhq jgi jgj jgk jgz jfR jgl jgO jfS jiB jc5 jdE Q C0 n9 _ _ _ p1 0 0 hP hD hS (lv_sub hl [2, 3, 1, 0] rfl) hw
theorem qaR2 : ∀ w ∈ u_ws RX1 TX1 4, w ∈ wsX1_owed := uiM qUY qV8 (by decide +kernel)
theorem qaQ3 : ∀ w ∈ u_ws RX2 TX2 12, w ∈ wsX1_owed := uiM qUY qLg (by decide +kernel)
theorem qaHz : (.fieldLink RX1 24 "MarchHares$Days" "down" "LMarchHares$Down;" : Cond) ∈ wsX1_owed := qUY 322 (by decide +kernel)
theorem qaKa : (.fieldLink RX1 32 "MarchHares$Down" "hares" "I" : Cond) ∈ wsX1_owed := qUY 324 (by decide +kernel)
set_option maxHeartbeats 4000000 in
set_option maxRecDepth 100000 in
theorem qaTz {p : Program} {l : Launch} {e : Env} {s : State} {m : MethodId} {args : Array Value} {below : List Frame} {meth : Method} {c : Code} {A : Nat → Prop} (dC : Nat → ClassId) (dI : Nat → Nat → Nat) (cyB cyI cyJ cyP : ClassId) (a0 jfB jch : Nat) (jcD jhx jhp jhq jgi jgj jgk jgz jfR jgl jgO jfS jiB : Value) (jc5 : Int32) (jdE : NI) (Q : Int32 → Prop) (C0 : cfx p s m args meth c cX1_owed (some .int) wsX1_owed RX1 4 A (dC, dI) (kT cyB cyI cyJ cyP)) : ∀ (n : Nat) (H : Heap) (locs : List Loc) (ls : Array Slot) (l1 l2 l3 : Int32), va_P (dC, dI) vwCl (qv4 a0 jch jcD jfB jhx jfB jhp jhq jgi jgj jgk jgz jfR jgl jgO jc5 jfS jiB jch cyI jdE) H → va_D A (qv4 a0 jch jcD jfB jhx jfB jhp jhq jgi jgj jgk jgz jfR jgl jgO jc5 jfS jiB jch cyI jdE) → va_S A s.heap H locs → lv_has ls 4 [(0, .ref a0), (1, .int l1), (2, .int l2), (3, .int l3)] → qLR jc5 jdE Q n l1 l2 l3 → W p l e (headSpec wsX1_owed ({ frames := 1, cells := 0, slots := 0, locals := 22 })).room s m args below meth c H locs 0 0 (MQ below (va_Qi (fun (r : Int32) (_ : Unit) => Q r ) (cB (dC, dI) (kT cyB cyI cyJ cyP) A (fun u : Unit => ((qv4 a0 jch jcD jfB jhx jfB jhp jhq jgi jgj jgk jgz jfR jgl jgO jc5 jfS jiB jch cyI jdE) : va_W))) A) args s 0 0 A) (F0 m 4 ls []) := by
  obtain ⟨hx, hb, hr, hts, hown, hlocks, hml, hA, hK, hNw⟩ := id C0
  intro n
  induction n with
  | zero => intro H locs ls l1 l2 l3 hP hD hS hl hw; exact False.elim hw
  | succ n ih =>
    intro H locs ls l1 l2 l3 hP hD hS hl hw
    refine lv_iload_n hx hb (qaa qov 4 rfl) rfl (lv_at hl 3 rfl) ?_
    refine lv_aload_n hx hb (qaa qov 5 rfl) rfl (lv_at hl 0 rfl) ?_
    refine va_get (D := (dC, dI)) (ci := 1) (v := .ref jfB) (C := RX1) (T := TX1) (N := 4) hx hb hts qaR2 hown hK hP 0 rfl rfl 2 (by decide) (hts _ qaHz) (fun _ h9 => h9) rfl (qaa qov 6 rfl) ?_
    refine va_get (D := (dC, dI)) (ci := 2) (v := .int jc5) (C := RX2) (T := TX2) (N := 12) hx hb hts qaQ3 hown hK hP 1 rfl rfl 9 (by decide) (hts _ qaKa) (fun _ h9 => h9) rfl (qaa qov 7 rfl) ?_
    refine lv_icmp_ge (tgt := 30) hx hb (qaa qov 8 rfl) (by decide) (fun c1 => ?_) (fun c1 => ?_)
    · have hw := hw.1 c1
      refine lv_iload_n hx hb (qaa qOe 2 rfl) rfl (lv_at hl 2 rfl) ?_
      exact ((W.iret (v := l2) hx hb hr (fun t ht hW => ⟨⟨l2, (), rfl, hw, by rw [ht]; exact hP, va_K.moved hW.alike hK, hD⟩, hS.F ht⟩) hS.2.2 (qaa qOe 3 rfl)))
    · have hw := hw.2 c1
      refine lv_iload_n hx hb (qaa qov 9 rfl) rfl (lv_at hl 2 rfl) ?_
      refine lv_aload_n hx hb (qaa qov 10 rfl) rfl (lv_at hl 0 rfl) ?_
      refine lv_iload_n hx hb (qaa qov 11 rfl) rfl (lv_at hl 3 rfl) ?_
      refine lv_iload_n hx hb (qaa qov 12 rfl) rfl (lv_at hl 1 rfl) ?_
      obtain ⟨hCc, hPc, hDc, hFc⟩ := qac (ws' := (qSm a0 jch jcD jfB jhx jch cyI jdE)) hP hD hS hA [0, 2] (by decide +kernel) rfl
      refine va_calli (va_runV (As := [.int l3, .int l1]) (rest := [.int l2]) ⟨hx, hb, hml, hown, hts⟩ (qF4 l dC dI cyB cyI cyJ cyP a0 jch H.size (jcD) (.ref jfB) (jhx) jdE l3 l1 hw) (cwV 2 hts gX1_owed_X1_owesTo rfl rfl rfl (by decide +kernel) ⟨nbq rfl, nbq rfl⟩) ⟨qab, va_recv (q := (RX1, TX1, 4)) hK hPc (ci := 1) (q0 := 0) rfl rfl, qae hPc hK hDc hNw⟩ rfl rfl hl.1 rfl (lv_room (nbq rfl)) (qaa qov 13 rfl) ⟨nbq rfl, nbq rfl⟩) hS (fun q _ h => hFc q h) hFc (fun r2 u t H1 locs ht hvm hw hB hz1 hk1 hS => ?_)
      obtain ⟨hP1, hK1, hD1⟩ := hB
      rw [ht] at hP1
      obtain ⟨hP, hD⟩ := qad (wr := (qa5U jfB jhp jhq jgi jgj jgk jgz jfR jgl jgO jc5 jfS jiB)) (w1 := (qSm a0 jch jcD jfB jhx jch cyI jdE)) (wn := (qv4 a0 jch jcD jfB jhx jfB jhp jhq jgi jgj jgk jgz jfR jgl jgO jc5 jfS jiB jch cyI jdE)) hP hD [0, 2] [1] [1, 0, 2] hCc rfl (by decide +kernel) (by decide +kernel) (by decide +kernel) rfl hk1 hFc hP1 hD1
      generalize H1 = H at hP hS ⊢
      refine lv_iadd hx hb (qaa qov 14 rfl) ?_
      refine lv_topi (fun x3 ex3 => ?_)
      have hw := hw x3 ex3
      refine lv_istore_n (lv' := [(2, .int x3), (0, .ref a0), (1, .int l1), (3, .int l3)]) hx hb (qaa qov 15 rfl) rfl hl (by decide) rfl (fun ls hl => ?_)
      obtain ⟨x4, ex4⟩ : ∃ y : Int32, y = l3 + 1 := ⟨_, rfl⟩
      have hw := hw x4 ex4
      refine lv_iinc (v := x4) (lv' := [(3, .int x4), (2, .int x3), (0, .ref a0), (1, .int l1)]) hx hb (qaa qOe 0 rfl) hl (k := 3) rfl (by rw [ex4]; rfl) (by decide) rfl (fun ls hl => ?_)
      refine lv_goto (tgt := 4) hx hb (qaa qOe 1 rfl) (by decide) ?_
      exact ih _ _ _ l1 x3 x4 hP hD hS (lv_sub hl [2, 3, 1, 0] rfl) hw
set_option maxHeartbeats 4000000 in
set_option maxRecDepth 100000 in
theorem qai9 (l : Launch) (dC : Nat → ClassId) (dI : Nat → Nat → Nat) (cyB cyI cyJ cyP : ClassId) (a0 jfB jch sz : Nat) (jcD jhx jhp jhq jgi jgj jgk jgz jfR jgl jgO jfS jiB : Value) (jc5 : Int32) (jdE : NI) (p1 : Int32) {Q : Int32 → Prop} (hw : qOq jc5 jdE p1 Q) : Met l yX1_owed wsX1_owed ({ frames := 1, cells := 0, slots := 0, locals := 22 }) (va_Pc [.ref a0, .int p1] (cPc (dC, dI) (kT cyB cyI cyJ cyP) (qv4 a0 jch jcD jfB jhx jfB jhp jhq jgi jgj jgk jgz jfR jgl jgO jc5 jfS jiB jch cyI jdE) sz)) (va_Qi (fun (r : Int32) (_ : Unit) => Q r ) (cB (dC, dI) (kT cyB cyI cyJ cyP) (va_A (qv4 a0 jch jcD jfB jhx jfB jhp jhq jgi jgj jgk jgz jfR jgl jgO jc5 jfS jiB jch cyI jdE) sz) (fun u : Unit => ((qv4 a0 jch jcD jfB jhx jfB jhp jhq jgi jgj jgk jgz jfR jgl jgO jc5 jfS jiB jch cyI jdE) : va_W))) (va_A (qv4 a0 jch jcD jfB jhx jfB jhp jhq jgi jgj jgk jgz jfR jgl jgO jc5 jfS jiB jch cyI jdE) sz)) 0 0 (va_A (qv4 a0 jch jcD jfB jhx jfB jhp jhq jgi jgj jgk jgz jfR jgl jgO jc5 jfS jiB jch cyI jdE) sz) := by
  refine Met.ofW (cc := cX1_owed) (maxL := 4) (ret := (some .int)) (by decide) rfl ?_
  intro p e s m args below meth c s₁ B hml hv
  obtain ⟨rfl, hsz, hP, hK, hD0, hNw⟩ := hv
  have hx := B.exec
  have hb := B.bytes
  have hr := B.returns
  have hts := atoms_spec (ws := wsX1_owed) B.pre
  have hown : s.vm.findClass RX1 = some m.cls := findClass_of_methodNamed B.named
  have hlocks := B.notSynchronized
  subst hsz
  have hD := hD0.self (sz := s.heap.size)
  generalize hAe : va_A (qv4 a0 jch jcD jfB jhx jfB jhp jhq jgi jgj jgk jgz jfR jgl jgO jc5 jfS jiB jch cyI jdE) s.heap.size = A at hD ⊢
  have hA : ∀ q : Nat, s.heap.size ≤ q → A q := fun q h => by rw [← hAe]; exact Or.inr h
  have hS : va_S A s.heap s.heap [] := va_S.rf
  have hP : va_P (dC, dI) vwCl (qv4 a0 jch jcD jfB jhx jfB jhp jhq jgi jgj jgk jgz jfR jgl jgO jc5 jfS jiB jch cyI jdE) s.heap := hP
  have hl := lv_entry ([.ref a0, .int p1]) (n := 4) (nbq rfl)
  rw [lg_entry_eq]
  generalize (lg_sl ([.ref a0, .int p1]) ++ List.replicate (4 - (lg_sl ([.ref a0, .int p1])).length) Slot.unset).toArray = ls at hl ⊢
  have hl : lv_has ls 4 [(0, .ref a0), (1, .int p1)] := hl
  have C0 : cfx p s m _ meth c cX1_owed (some .int) wsX1_owed RX1 4 A (dC, dI) (kT cyB cyI cyJ cyP) := ⟨hx, hb, hr, hts, hown, hlocks, hml, hA, hK, hNw⟩
  clear hAe
  obtain ⟨H, hH⟩ : ∃ H, H = s.heap := ⟨_, rfl⟩
  rw [← hH] at hP ⊢
  have hS : va_S A s.heap H [] := by rw [hH]; exact va_S.rf
  have hS := hS
  refine lv_iconst (v := 0) hx hb (qaa qov 0 rfl) (by decide) ?_
  refine lv_istore_n (lv' := [(2, .int 0), (0, .ref a0), (1, .int p1)]) hx hb (qaa qov 1 rfl) rfl hl (by decide) rfl (fun ls hl => ?_)
  refine lv_iconst (v := 0) hx hb (qaa qov 2 rfl) (by decide) ?_
  refine lv_istore_n (lv' := [(3, .int 0), (2, .int 0), (0, .ref a0), (1, .int p1)]) hx hb (qaa qov 3 rfl) rfl hl (by decide) rfl (fun ls hl => ?_)
  obtain ⟨n9, hw⟩ := hw
  exact qaTz dC dI cyB cyI cyJ cyP a0 jfB jch jcD jhx jhp jhq jgi jgj jgk jgz jfR jgl jgO jfS jiB jc5 jdE Q C0 n9 _ _ _ p1 0 0 hP hD hS (lv_sub hl [2, 3, 1, 0] rfl) hw
theorem qyN : ∀ w ∈ u_ws RX4 TX4 5, w ∈ wsX4_setFacts := uiM qadC euX4 (by decide +kernel)
theorem qxe : (.fieldLink RX4 21 "MarchHares$Law" "facts" "[I" : Cond) ∈ wsX4_setFacts := qadC 203 (by decide +kernel)
set_option maxHeartbeats 4000000 in
set_option maxRecDepth 100000 in
theorem q7l (l : Launch) (dC : Nat → ClassId) (dI : Nat → Nat → Nat) (cyB cyI cyJ cyP : ClassId) (a0 jbu sz : Nat) (jni jn6 jhV jjf : Value) (jbZ : NI) (p1 p2 p3 p4 p5 : Int32) {Q : NI → Prop} (hw : qDZ jbZ p1 p2 p3 p4 p5 Q) : Met l yX4_setFacts wsX4_setFacts ({ frames := 0, cells := 0, slots := 0, locals := 0 }) (va_Pc [.ref a0, .int p1, .int p2, .int p3, .int p4, .int p5] (cPc (dC, dI) (kT cyB cyI cyJ cyP) (qwg a0 jni jn6 jhV jbu jjf jbu cyI jbZ) sz)) (va_Qv (fun (u : NI) => Q u) (cB (dC, dI) (kT cyB cyI cyJ cyP) (va_A (qwg a0 jni jn6 jhV jbu jjf jbu cyI jbZ) sz) (fun u : NI => ((qwg a0 jni jn6 jhV jbu jjf jbu cyI u) : va_W))) (va_A (qwg a0 jni jn6 jhV jbu jjf jbu cyI jbZ) sz)) 0 0 (va_A (qwg a0 jni jn6 jhV jbu jjf jbu cyI jbZ) sz) := by
  refine Met.ofW (cc := cX4_setFacts) (maxL := 6) (ret := none) (by decide) rfl ?_
  intro p e s m args below meth c s₁ B hml hv
  obtain ⟨rfl, hsz, hP, hK, hD0, hNw⟩ := hv
  have hx := B.exec
  have hb := B.bytes
  have hr := B.returns
  have hts := atoms_spec (ws := wsX4_setFacts) B.pre
  have hown : s.vm.findClass RX4 = some m.cls := findClass_of_methodNamed B.named
  have hlocks := B.notSynchronized
  subst hsz
  have hD := hD0.self (sz := s.heap.size)
  generalize hAe : va_A (qwg a0 jni jn6 jhV jbu jjf jbu cyI jbZ) s.heap.size = A at hD ⊢
  have hA : ∀ q : Nat, s.heap.size ≤ q → A q := fun q h => by rw [← hAe]; exact Or.inr h
  have hS : va_S A s.heap s.heap [] := va_S.rf
  have hP : va_P (dC, dI) vwCl (qwg a0 jni jn6 jhV jbu jjf jbu cyI jbZ) s.heap := hP
  have hl := lv_entry ([.ref a0, .int p1, .int p2, .int p3, .int p4, .int p5]) (n := 6) (nbq rfl)
  rw [lg_entry_eq]
  generalize (lg_sl ([.ref a0, .int p1, .int p2, .int p3, .int p4, .int p5]) ++ List.replicate (6 - (lg_sl ([.ref a0, .int p1, .int p2, .int p3, .int p4, .int p5])).length) Slot.unset).toArray = ls at hl ⊢
  have hl : lv_has ls 6 [(0, .ref a0), (1, .int p1), (2, .int p2), (3, .int p3), (4, .int p4), (5, .int p5)] := hl
  have C0 : cfx p s m _ meth c cX4_setFacts none wsX4_setFacts RX4 6 A (dC, dI) (kT cyB cyI cyJ cyP) := ⟨hx, hb, hr, hts, hown, hlocks, hml, hA, hK, hNw⟩
  clear hAe
  obtain ⟨H, hH⟩ : ∃ H, H = s.heap := ⟨_, rfl⟩
  rw [← hH] at hP ⊢
  have hS : va_S A s.heap H [] := by rw [hH]; exact va_S.rf
  have hS := hS
  refine lv_aload_n hx hb (qaa qf6 0 rfl) rfl (lv_at hl 0 rfl) ?_
  refine va_get (D := (dC, dI)) (ci := 4) (v := .ref jbu) (C := RX4) (T := TX4) (N := 5) hx hb hts qyN hown hK hP 0 rfl rfl 3 (by decide) (hts _ qxe) (fun _ h9 => h9) rfl (qaa qf6 1 rfl) ?_
  refine lv_iconst (v := 0) hx hb (qaa qf6 2 rfl) (by decide) ?_
  refine lv_iload_n hx hb (qaa qf6 3 rfl) rfl (lv_at hl 1 rfl) ?_
  refine va_iast hx hb hK hP hD hS 1 1 rfl rfl (vin (by decide)) (qaa qf6 4 rfl) (fun H locs hP hD hS => ?_)
  obtain ⟨f1, ef1⟩ : ∃ y : NI, y = upd jbZ (0 : Int32).toNatClampNeg p1 := ⟨_, rfl⟩
  have hw := hw f1 ef1
  have hP : va_P (dC, dI) vwCl (qwg a0 jni jn6 jhV jbu jjf jbu cyI f1) H := by rw [ef1]; exact hP
  have hD : va_D A (qwg a0 jni jn6 jhV jbu jjf jbu cyI f1) := by rw [ef1]; exact hD
  refine lv_aload_n hx hb (qaa qf6 5 rfl) rfl (lv_at hl 0 rfl) ?_
  refine va_get (D := (dC, dI)) (ci := 4) (v := .ref jbu) (C := RX4) (T := TX4) (N := 5) hx hb hts qyN hown hK hP 0 rfl rfl 3 (by decide) (hts _ qxe) (fun _ h9 => h9) rfl (qaa qf6 6 rfl) ?_
  refine lv_iconst (v := 1) hx hb (qaa qf6 7 rfl) (by decide) ?_
  refine lv_iload_n hx hb (qaa qf6 8 rfl) rfl (lv_at hl 2 rfl) ?_
  refine va_iast hx hb hK hP hD hS 1 1 rfl rfl (vin (by decide)) (qaa qf6 9 rfl) (fun H locs hP hD hS => ?_)
  obtain ⟨f2, ef2⟩ : ∃ y : NI, y = upd f1 (1 : Int32).toNatClampNeg p2 := ⟨_, rfl⟩
  have hw := hw f2 ef2
  have hP : va_P (dC, dI) vwCl (qwg a0 jni jn6 jhV jbu jjf jbu cyI f2) H := by rw [ef2]; exact hP
  have hD : va_D A (qwg a0 jni jn6 jhV jbu jjf jbu cyI f2) := by rw [ef2]; exact hD
  refine lv_aload_n hx hb (qaa qf6 10 rfl) rfl (lv_at hl 0 rfl) ?_
  refine va_get (D := (dC, dI)) (ci := 4) (v := .ref jbu) (C := RX4) (T := TX4) (N := 5) hx hb hts qyN hown hK hP 0 rfl rfl 3 (by decide) (hts _ qxe) (fun _ h9 => h9) rfl (qaa qf6 11 rfl) ?_
  refine lv_iconst (v := 2) hx hb (qaa qf6 12 rfl) (by decide) ?_
  refine lv_iload_n hx hb (qaa qf6 13 rfl) rfl (lv_at hl 3 rfl) ?_
  refine va_iast hx hb hK hP hD hS 1 1 rfl rfl (vin (by decide)) (qaa qf6 14 rfl) (fun H locs hP hD hS => ?_)
  obtain ⟨f3, ef3⟩ : ∃ y : NI, y = upd f2 (2 : Int32).toNatClampNeg p3 := ⟨_, rfl⟩
  have hw := hw f3 ef3
  have hP : va_P (dC, dI) vwCl (qwg a0 jni jn6 jhV jbu jjf jbu cyI f3) H := by rw [ef3]; exact hP
  have hD : va_D A (qwg a0 jni jn6 jhV jbu jjf jbu cyI f3) := by rw [ef3]; exact hD
  refine lv_aload_n hx hb (qaa qf6 15 rfl) rfl (lv_at hl 0 rfl) ?_
  refine va_get (D := (dC, dI)) (ci := 4) (v := .ref jbu) (C := RX4) (T := TX4) (N := 5) hx hb hts qyN hown hK hP 0 rfl rfl 3 (by decide) (hts _ qxe) (fun _ h9 => h9) rfl (qaa qog 0 rfl) ?_
  refine lv_iconst (v := 3) hx hb (qaa qog 1 rfl) (by decide) ?_
  refine lv_iload hx hb (qaa qog 2 rfl) (lv_at hl 4 rfl) ?_
  refine va_iast hx hb hK hP hD hS 1 1 rfl rfl (vin (by decide)) (qaa qog 3 rfl) (fun H locs hP hD hS => ?_)
  obtain ⟨f4, ef4⟩ : ∃ y : NI, y = upd f3 (3 : Int32).toNatClampNeg p4 := ⟨_, rfl⟩
  have hw := hw f4 ef4
  have hP : va_P (dC, dI) vwCl (qwg a0 jni jn6 jhV jbu jjf jbu cyI f4) H := by rw [ef4]; exact hP
  have hD : va_D A (qwg a0 jni jn6 jhV jbu jjf jbu cyI f4) := by rw [ef4]; exact hD
  refine lv_aload_n hx hb (qaa qog 4 rfl) rfl (lv_at hl 0 rfl) ?_
  refine va_get (D := (dC, dI)) (ci := 4) (v := .ref jbu) (C := RX4) (T := TX4) (N := 5) hx hb hts qyN hown hK hP 0 rfl rfl 3 (by decide) (hts _ qxe) (fun _ h9 => h9) rfl (qaa qog 5 rfl) ?_
  refine lv_iconst (v := 4) hx hb (qaa qog 6 rfl) (by decide) ?_
  refine lv_iload hx hb (qaa qog 7 rfl) (lv_at hl 5 rfl) ?_
  refine va_iast hx hb hK hP hD hS 1 1 rfl rfl (vin (by decide)) (qaa qog 8 rfl) (fun H locs hP hD hS => ?_)
  obtain ⟨f5, ef5⟩ : ∃ y : NI, y = upd f4 (4 : Int32).toNatClampNeg p5 := ⟨_, rfl⟩
  have hw := hw f5 ef5
  have hP : va_P (dC, dI) vwCl (qwg a0 jni jn6 jhV jbu jjf jbu cyI f5) H := by rw [ef5]; exact hP
  have hD : va_D A (qwg a0 jni jn6 jhV jbu jjf jbu cyI f5) := by rw [ef5]; exact hD
  exact ((W.vret hx hb hr (fun t ht hW => ⟨⟨(f5), rfl, hw, by rw [ht]; exact hP, va_K.moved hW.alike hK, hD⟩, hS.F ht⟩) hS.2.2 (qaa qog 9 rfl)))
theorem qaKK : ∀ w ∈ u_ws RX1 TX1 4, w ∈ wsX1_leaps := uiM qaLy qV8 (by decide +kernel)
theorem qayz : (.fieldLink RX1 13 "MarchHares$Days" "row" "[I" : Cond) ∈ wsX1_leaps := qaLy 276 (by decide +kernel)
set_option maxHeartbeats 4000000 in
set_option maxRecDepth 100000 in
theorem qav0 (l : Launch) (dC : Nat → ClassId) (dI : Nat → Nat → Nat) (cyB cyI cyJ cyP : ClassId) (a0 jch sz : Nat) (jcD ji6 jhx : Value) (jdE : NI) (p1 : Int32) {Q : Int32 → Prop} (hw : qQo jdE p1 Q) : Met l yX1_leaps wsX1_leaps ({ frames := 0, cells := 0, slots := 0, locals := 0 }) (va_Pc [.ref a0, .int p1] (cPc (dC, dI) (kT cyB cyI cyJ cyP) (qJA a0 jch jcD ji6 jhx jch cyI jdE) sz)) (va_Qi (fun (r : Int32) (_ : Unit) => Q r ) (cB (dC, dI) (kT cyB cyI cyJ cyP) (va_A (qJA a0 jch jcD ji6 jhx jch cyI jdE) sz) (fun u : Unit => ((qJA a0 jch jcD ji6 jhx jch cyI jdE) : va_W))) (va_A (qJA a0 jch jcD ji6 jhx jch cyI jdE) sz)) 0 0 (va_A (qJA a0 jch jcD ji6 jhx jch cyI jdE) sz) := by
  refine Met.ofW (cc := cX1_leaps) (maxL := 2) (ret := (some .int)) (by decide) rfl ?_
  intro p e s m args below meth c s₁ B hml hv
  obtain ⟨rfl, hsz, hP, hK, hD0, hNw⟩ := hv
  have hx := B.exec
  have hb := B.bytes
  have hr := B.returns
  have hts := atoms_spec (ws := wsX1_leaps) B.pre
  have hown : s.vm.findClass RX1 = some m.cls := findClass_of_methodNamed B.named
  have hlocks := B.notSynchronized
  subst hsz
  have hD := hD0.self (sz := s.heap.size)
  generalize hAe : va_A (qJA a0 jch jcD ji6 jhx jch cyI jdE) s.heap.size = A at hD ⊢
  have hA : ∀ q : Nat, s.heap.size ≤ q → A q := fun q h => by rw [← hAe]; exact Or.inr h
  have hS : va_S A s.heap s.heap [] := va_S.rf
  have hP : va_P (dC, dI) vwCl (qJA a0 jch jcD ji6 jhx jch cyI jdE) s.heap := hP
  have hl := lv_entry ([.ref a0, .int p1]) (n := 2) (nbq rfl)
  rw [lg_entry_eq]
  generalize (lg_sl ([.ref a0, .int p1]) ++ List.replicate (2 - (lg_sl ([.ref a0, .int p1])).length) Slot.unset).toArray = ls at hl ⊢
  have hl : lv_has ls 2 [(0, .ref a0), (1, .int p1)] := hl
  have C0 : cfx p s m _ meth c cX1_leaps (some .int) wsX1_leaps RX1 2 A (dC, dI) (kT cyB cyI cyJ cyP) := ⟨hx, hb, hr, hts, hown, hlocks, hml, hA, hK, hNw⟩
  clear hAe
  obtain ⟨H, hH⟩ : ∃ H, H = s.heap := ⟨_, rfl⟩
  rw [← hH] at hP ⊢
  have hS : va_S A s.heap H [] := by rw [hH]; exact va_S.rf
  have hS := hS
  refine lv_aload_n hx hb (qaa qzl 0 rfl) rfl (lv_at hl 0 rfl) ?_
  refine va_get (D := (dC, dI)) (ci := 1) (v := .ref jch) (C := RX1) (T := TX1) (N := 4) hx hb hts qaKK hown hK hP 0 rfl rfl 0 (by decide) (hts _ qayz) (fun _ h9 => h9) rfl (qaa qzl 1 rfl) ?_
  refine lv_bipush (v := 22) hx hb (qaa qzl 2 rfl) (by decide) ?_
  refine lv_iload_n hx hb (qaa qzl 3 rfl) rfl (lv_at hl 1 rfl) ?_
  refine lv_iadd hx hb (qaa qzl 4 rfl) ?_
  refine lv_topi (fun x1 ex1 => ?_)
  have hw := hw x1 ex1
  obtain ⟨hi9, hw⟩ := hw
  refine va_iald hx hb hK hP 1 1 rfl rfl hi9 (qaa qzl 5 rfl) ?_
  refine lv_topi (fun x2 ex2 => ?_)
  have hw := hw x2 ex2
  exact ((W.iret (v := x2) hx hb hr (fun t ht hW => ⟨⟨x2, (), rfl, hw, by rw [ht]; exact hP, va_K.moved hW.alike hK, hD⟩, hS.F ht⟩) hS.2.2 (qaa qzl 6 rfl)))
theorem qKi : ∀ w ∈ u_ws RX4 TX4 5, w ∈ wsX4_setTimes := uiM qagG euX4 (by decide +kernel)
theorem qIw : (.fieldLink RX4 21 "MarchHares$Law" "facts" "[I" : Cond) ∈ wsX4_setTimes := qagG 203 (by decide +kernel)
set_option maxHeartbeats 4000000 in
set_option maxRecDepth 100000 in
theorem q7v (l : Launch) (dC : Nat → ClassId) (dI : Nat → Nat → Nat) (cyB cyI cyJ cyP : ClassId) (a0 jbu sz : Nat) (jni jn6 jhV jjf : Value) (jbZ : NI) (p1 p2 p3 : Int32) {Q : NI → Prop} (hw : qDN jbZ p1 p2 p3 Q) : Met l yX4_setTimes wsX4_setTimes ({ frames := 0, cells := 0, slots := 0, locals := 0 }) (va_Pc [.ref a0, .int p1, .int p2, .int p3] (cPc (dC, dI) (kT cyB cyI cyJ cyP) (qwg a0 jni jn6 jhV jbu jjf jbu cyI jbZ) sz)) (va_Qv (fun (u : NI) => Q u) (cB (dC, dI) (kT cyB cyI cyJ cyP) (va_A (qwg a0 jni jn6 jhV jbu jjf jbu cyI jbZ) sz) (fun u : NI => ((qwg a0 jni jn6 jhV jbu jjf jbu cyI u) : va_W))) (va_A (qwg a0 jni jn6 jhV jbu jjf jbu cyI jbZ) sz)) 0 0 (va_A (qwg a0 jni jn6 jhV jbu jjf jbu cyI jbZ) sz) := by
  refine Met.ofW (cc := cX4_setTimes) (maxL := 4) (ret := none) (by decide) rfl ?_
  intro p e s m args below meth c s₁ B hml hv
  obtain ⟨rfl, hsz, hP, hK, hD0, hNw⟩ := hv
  have hx := B.exec
  have hb := B.bytes
  have hr := B.returns
  have hts := atoms_spec (ws := wsX4_setTimes) B.pre
  have hown : s.vm.findClass RX4 = some m.cls := findClass_of_methodNamed B.named
  have hlocks := B.notSynchronized
  subst hsz
  have hD := hD0.self (sz := s.heap.size)
  generalize hAe : va_A (qwg a0 jni jn6 jhV jbu jjf jbu cyI jbZ) s.heap.size = A at hD ⊢
  have hA : ∀ q : Nat, s.heap.size ≤ q → A q := fun q h => by rw [← hAe]; exact Or.inr h
  have hS : va_S A s.heap s.heap [] := va_S.rf
  have hP : va_P (dC, dI) vwCl (qwg a0 jni jn6 jhV jbu jjf jbu cyI jbZ) s.heap := hP
  have hl := lv_entry ([.ref a0, .int p1, .int p2, .int p3]) (n := 4) (nbq rfl)
  rw [lg_entry_eq]
  generalize (lg_sl ([.ref a0, .int p1, .int p2, .int p3]) ++ List.replicate (4 - (lg_sl ([.ref a0, .int p1, .int p2, .int p3])).length) Slot.unset).toArray = ls at hl ⊢
  have hl : lv_has ls 4 [(0, .ref a0), (1, .int p1), (2, .int p2), (3, .int p3)] := hl
  have C0 : cfx p s m _ meth c cX4_setTimes none wsX4_setTimes RX4 4 A (dC, dI) (kT cyB cyI cyJ cyP) := ⟨hx, hb, hr, hts, hown, hlocks, hml, hA, hK, hNw⟩
  clear hAe
  obtain ⟨H, hH⟩ : ∃ H, H = s.heap := ⟨_, rfl⟩
  rw [← hH] at hP ⊢
  have hS : va_S A s.heap H [] := by rw [hH]; exact va_S.rf
  have hS := hS
  refine lv_aload_n hx hb (qaa qfr 0 rfl) rfl (lv_at hl 0 rfl) ?_
  refine va_get (D := (dC, dI)) (ci := 4) (v := .ref jbu) (C := RX4) (T := TX4) (N := 5) hx hb hts qKi hown hK hP 0 rfl rfl 3 (by decide) (hts _ qIw) (fun _ h9 => h9) rfl (qaa qfr 1 rfl) ?_
  refine lv_iconst (v := 5) hx hb (qaa qfr 2 rfl) (by decide) ?_
  refine lv_iload_n hx hb (qaa qfr 3 rfl) rfl (lv_at hl 1 rfl) ?_
  refine va_iast hx hb hK hP hD hS 1 1 rfl rfl (vin (by decide)) (qaa qfr 4 rfl) (fun H locs hP hD hS => ?_)
  obtain ⟨f1, ef1⟩ : ∃ y : NI, y = upd jbZ (5 : Int32).toNatClampNeg p1 := ⟨_, rfl⟩
  have hw := hw f1 ef1
  have hP : va_P (dC, dI) vwCl (qwg a0 jni jn6 jhV jbu jjf jbu cyI f1) H := by rw [ef1]; exact hP
  have hD : va_D A (qwg a0 jni jn6 jhV jbu jjf jbu cyI f1) := by rw [ef1]; exact hD
  refine lv_aload_n hx hb (qaa qfr 5 rfl) rfl (lv_at hl 0 rfl) ?_
  refine va_get (D := (dC, dI)) (ci := 4) (v := .ref jbu) (C := RX4) (T := TX4) (N := 5) hx hb hts qKi hown hK hP 0 rfl rfl 3 (by decide) (hts _ qIw) (fun _ h9 => h9) rfl (qaa qfr 6 rfl) ?_
  refine lv_bipush (v := 6) hx hb (qaa qfr 7 rfl) (by decide) ?_
  refine lv_iload_n hx hb (qaa qfr 8 rfl) rfl (lv_at hl 2 rfl) ?_
  refine va_iast hx hb hK hP hD hS 1 1 rfl rfl (vin (by decide)) (qaa qfr 9 rfl) (fun H locs hP hD hS => ?_)
  obtain ⟨f2, ef2⟩ : ∃ y : NI, y = upd f1 (6 : Int32).toNatClampNeg p2 := ⟨_, rfl⟩
  have hw := hw f2 ef2
  have hP : va_P (dC, dI) vwCl (qwg a0 jni jn6 jhV jbu jjf jbu cyI f2) H := by rw [ef2]; exact hP
  have hD : va_D A (qwg a0 jni jn6 jhV jbu jjf jbu cyI f2) := by rw [ef2]; exact hD
  refine lv_aload_n hx hb (qaa qfr 10 rfl) rfl (lv_at hl 0 rfl) ?_
  refine va_get (D := (dC, dI)) (ci := 4) (v := .ref jbu) (C := RX4) (T := TX4) (N := 5) hx hb hts qKi hown hK hP 0 rfl rfl 3 (by decide) (hts _ qIw) (fun _ h9 => h9) rfl (qaa qfr 11 rfl) ?_
  refine lv_bipush (v := 7) hx hb (qaa qfr 12 rfl) (by decide) ?_
  refine lv_iload_n hx hb (qaa qfr 13 rfl) rfl (lv_at hl 3 rfl) ?_
  refine va_iast hx hb hK hP hD hS 1 1 rfl rfl (vin (by decide)) (qaa qfr 14 rfl) (fun H locs hP hD hS => ?_)
  obtain ⟨f3, ef3⟩ : ∃ y : NI, y = upd f2 (7 : Int32).toNatClampNeg p3 := ⟨_, rfl⟩
  have hw := hw f3 ef3
  have hP : va_P (dC, dI) vwCl (qwg a0 jni jn6 jhV jbu jjf jbu cyI f3) H := by rw [ef3]; exact hP
  have hD : va_D A (qwg a0 jni jn6 jhV jbu jjf jbu cyI f3) := by rw [ef3]; exact hD
  exact ((W.vret hx hb hr (fun t ht hW => ⟨⟨(f3), rfl, hw, by rw [ht]; exact hP, va_K.moved hW.alike hK, hD⟩, hS.F ht⟩) hS.2.2 (qaa qfr 15 rfl)))
theorem qbfe {x : Int32} (h : ¬ (x.toInt < 2 ∨ 7 < x.toInt)) : x = 2 ∨ x = 3 ∨ x = 4 ∨ x = 5 ∨ x = 6 ∨ x = 7 := by
  obtain ⟨j, hj, e⟩ := nI_of (x := x) (fun h0 => h (Or.inl (Int.lt_of_lt_of_le (by simpa using (Int32.lt_iff_toInt_lt.mp h0)) (by decide : (0 : Int) ≤ 2))))
  have h2 : (j : Int) ≤ 7 ∧ 2 ≤ (j : Int) := by
    have := nI_toInt hj
    rw [e] at h
    omega
  have h3 : j = 2 ∨ j = 3 ∨ j = 4 ∨ j = 5 ∨ j = 6 ∨ j = 7 := by omega
  rw [e]
  rcases h3 with rfl | rfl | rfl | rfl | rfl | rfl <;> decide
set_option maxHeartbeats 4000000 in
set_option maxRecDepth 100000 in
theorem qaVc (l : Launch) (dC : Nat → ClassId) (dI : Nat → Nat → Nat) (cyB cyI cyJ cyP : ClassId) (sz : Nat) (p0 p1 p2 : Int32) {Q : Int32 → Prop} (hw : qRR p0 p1 p2 Q) : Met l yX4_joined wsX4_joined ({ frames := 0, cells := 0, slots := 0, locals := 0 }) (va_Pc [.int p0, .int p1, .int p2] (cPc (dC, dI) (kT cyB cyI cyJ cyP) [] sz)) (va_Qi (fun (r : Int32) (_ : Unit) => Q r ) (cB (dC, dI) (kT cyB cyI cyJ cyP) (va_A [] sz) (fun u : Unit => ([] : va_W))) (va_A [] sz)) 0 0 (va_A [] sz) := by
  refine Met.ofW (cc := cX4_joined) (maxL := 3) (ret := (some .int)) (by decide) rfl ?_
  intro p e s m args below meth c s₁ B hml hv
  obtain ⟨rfl, hsz, hP, hK, hD0, hNw⟩ := hv
  have hx := B.exec
  have hb := B.bytes
  have hr := B.returns
  have hts := atoms_spec (ws := wsX4_joined) B.pre
  have hown : s.vm.findClass RX4 = some m.cls := findClass_of_methodNamed B.named
  have hlocks := B.notSynchronized
  subst hsz
  have hD := hD0.self (sz := s.heap.size)
  generalize hAe : va_A [] s.heap.size = A at hD ⊢
  have hA : ∀ q : Nat, s.heap.size ≤ q → A q := fun q h => by rw [← hAe]; exact Or.inr h
  have hS : va_S A s.heap s.heap [] := va_S.rf
  have hP : va_P (dC, dI) vwCl [] s.heap := hP
  have hl := lv_entry ([.int p0, .int p1, .int p2]) (n := 3) (nbq rfl)
  rw [lg_entry_eq]
  generalize (lg_sl ([.int p0, .int p1, .int p2]) ++ List.replicate (3 - (lg_sl ([.int p0, .int p1, .int p2])).length) Slot.unset).toArray = ls at hl ⊢
  have hl : lv_has ls 3 [(0, .int p0), (1, .int p1), (2, .int p2)] := hl
  have C0 : cfx p s m _ meth c cX4_joined (some .int) wsX4_joined RX4 3 A (dC, dI) (kT cyB cyI cyJ cyP) := ⟨hx, hb, hr, hts, hown, hlocks, hml, hA, hK, hNw⟩
  clear hAe
  obtain ⟨H, hH⟩ : ∃ H, H = s.heap := ⟨_, rfl⟩
  rw [← hH] at hP ⊢
  have hS : va_S A s.heap H [] := by rw [hH]; exact va_S.rf
  have hS := hS
  refine lv_iload_n hx hb (qaa qaFm 0 rfl) rfl (lv_at hl 0 rfl) ?_
  by_cases c1 : p0.toInt < 2 ∨ 7 < p0.toInt
  · have hw := hw.1 c1
    refine lv_tableOut (tgt := 87) hx hb dX4_joined_1 c1 (by decide) ?_
    refine lv_iload_n hx hb (qaa qeW 11 rfl) rfl (lv_at hl 1 rfl) ?_
    refine lv_iload_n hx hb (qaa qeW 12 rfl) rfl (lv_at hl 2 rfl) ?_
    refine lv_icmp_le (tgt := 96) hx hb (qaa qeW 13 rfl) (by decide) (fun c2 => ?_) (fun c2 => ?_)
    · have hw := hw.1 c2
      refine lv_iload_n hx hb (qaa qOZ 0 rfl) rfl (lv_at hl 2 rfl) ?_
      exact ((W.iret (v := p2) hx hb hr (fun t ht hW => ⟨⟨p2, (), rfl, hw, by rw [ht]; exact hP, va_K.moved hW.alike hK, hD⟩, hS.F ht⟩) hS.2.2 (qaa qOZ 1 rfl)))
    · have hw := hw.2 c2
      refine lv_iload_n hx hb (qaa qeW 14 rfl) rfl (lv_at hl 1 rfl) ?_
      refine lv_goto (tgt := 97) hx hb (qaa qeW 15 rfl) (by decide) ?_
      exact ((W.iret (v := p1) hx hb hr (fun t ht hW => ⟨⟨p1, (), rfl, hw, by rw [ht]; exact hP, va_K.moved hW.alike hK, hD⟩, hS.F ht⟩) hS.2.2 (qaa qOZ 1 rfl)))
  · have hw := hw.2
    rcases qbfe c1 with c1 | c1 | c1 | c1 | c1 | c1
    · have hw := hw.1 c1
      refine lv_tableIn (tgt := 40) (off := 39) hx hb dX4_joined_1 (by rw [c1]; decide) (by rw [c1]; decide) (by rw [c1]; decide) (by decide) ?_
      refine lv_iload_n hx hb (qaa qhY 0 rfl) rfl (lv_at hl 1 rfl) ?_
      refine lv_iload_n hx hb (qaa qhY 1 rfl) rfl (lv_at hl 2 rfl) ?_
      refine lv_iadd hx hb (qaa qhY 2 rfl) ?_
      exact ((W.iret (v := (p1 + p2)) hx hb hr (fun t ht hW => ⟨⟨(p1 + p2), (), rfl, hw, by rw [ht]; exact hP, va_K.moved hW.alike hK, hD⟩, hS.F ht⟩) hS.2.2 (qaa qhY 3 rfl)))
    · have hw := hw.2.1 c1
      refine lv_tableIn (tgt := 44) (off := 43) hx hb dX4_joined_1 (by rw [c1]; decide) (by rw [c1]; decide) (by rw [c1]; decide) (by decide) ?_
      refine lv_iload_n hx hb (qaa qhY 4 rfl) rfl (lv_at hl 1 rfl) ?_
      refine lv_iload_n hx hb (qaa qhY 5 rfl) rfl (lv_at hl 2 rfl) ?_
      refine lv_isub hx hb (qaa qhY 6 rfl) ?_
      exact ((W.iret (v := (p1 - p2)) hx hb hr (fun t ht hW => ⟨⟨(p1 - p2), (), rfl, hw, by rw [ht]; exact hP, va_K.moved hW.alike hK, hD⟩, hS.F ht⟩) hS.2.2 (qaa qhY 7 rfl)))
    · have hw := hw.2.2.1 c1
      refine lv_tableIn (tgt := 48) (off := 47) hx hb dX4_joined_1 (by rw [c1]; decide) (by rw [c1]; decide) (by rw [c1]; decide) (by decide) ?_
      refine lv_iload_n hx hb (qaa qhY 8 rfl) rfl (lv_at hl 1 rfl) ?_
      refine lv_iload_n hx hb (qaa qhY 9 rfl) rfl (lv_at hl 2 rfl) ?_
      refine lv_imul hx hb (qaa qhY 10 rfl) ?_
      exact ((W.iret (v := (p1 * p2)) hx hb hr (fun t ht hW => ⟨⟨(p1 * p2), (), rfl, hw, by rw [ht]; exact hP, va_K.moved hW.alike hK, hD⟩, hS.F ht⟩) hS.2.2 (qaa qhY 11 rfl)))
    · have hw := hw.2.2.2.1 c1
      refine lv_tableIn (tgt := 52) (off := 51) hx hb dX4_joined_1 (by rw [c1]; decide) (by rw [c1]; decide) (by rw [c1]; decide) (by decide) ?_
      refine lv_iload_n hx hb (qaa qhY 12 rfl) rfl (lv_at hl 2 rfl) ?_
      refine lv_if_ne (tgt := 60) hx hb (qaa qhY 13 rfl) (by decide) (fun c3 => ?_) (fun c3 => ?_)
      · have hw := hw.1 c3
        refine lv_iload_n hx hb (qaa qrZ 0 rfl) rfl (lv_at hl 1 rfl) ?_
        refine lv_iload_n hx hb (qaa qrZ 1 rfl) rfl (lv_at hl 2 rfl) ?_
        obtain ⟨hz9, hw⟩ := hw
        refine lv_idiv hx hb (qaa qrZ 2 rfl) hz9 ?_
        refine lv_topi (fun x4 ex4 => ?_)
        have hw := hw x4 ex4
        exact ((W.iret (v := x4) hx hb hr (fun t ht hW => ⟨⟨x4, (), rfl, hw, by rw [ht]; exact hP, va_K.moved hW.alike hK, hD⟩, hS.F ht⟩) hS.2.2 (qaa qrZ 3 rfl)))
      · have hw := hw.2 c3
        refine lv_iconst (v := 0) hx hb (qaa qhY 14 rfl) (by decide) ?_
        refine lv_goto (tgt := 63) hx hb (qaa qhY 15 rfl) (by decide) ?_
        exact ((W.iret (v := 0) hx hb hr (fun t ht hW => ⟨⟨0, (), rfl, hw, by rw [ht]; exact hP, va_K.moved hW.alike hK, hD⟩, hS.F ht⟩) hS.2.2 (qaa qrZ 3 rfl)))
    · have hw := hw.2.2.2.2.1 c1
      refine lv_tableIn (tgt := 64) (off := 63) hx hb dX4_joined_1 (by rw [c1]; decide) (by rw [c1]; decide) (by rw [c1]; decide) (by decide) ?_
      refine lv_iload_n hx hb (qaa qrZ 4 rfl) rfl (lv_at hl 2 rfl) ?_
      refine lv_if_ne (tgt := 72) hx hb (qaa qrZ 5 rfl) (by decide) (fun c5 => ?_) (fun c5 => ?_)
      · have hw := hw.1 c5
        refine lv_iload_n hx hb (qaa qeW 0 rfl) rfl (lv_at hl 1 rfl) ?_
        refine lv_iload_n hx hb (qaa qeW 1 rfl) rfl (lv_at hl 2 rfl) ?_
        obtain ⟨hz9, hw⟩ := hw
        refine lv_irem hx hb (qaa qeW 2 rfl) hz9 ?_
        refine lv_topi (fun x6 ex6 => ?_)
        have hw := hw x6 ex6
        exact ((W.iret (v := x6) hx hb hr (fun t ht hW => ⟨⟨x6, (), rfl, hw, by rw [ht]; exact hP, va_K.moved hW.alike hK, hD⟩, hS.F ht⟩) hS.2.2 (qaa qeW 3 rfl)))
      · have hw := hw.2 c5
        refine lv_iconst (v := 0) hx hb (qaa qrZ 6 rfl) (by decide) ?_
        refine lv_goto (tgt := 75) hx hb (qaa qrZ 7 rfl) (by decide) ?_
        exact ((W.iret (v := 0) hx hb hr (fun t ht hW => ⟨⟨0, (), rfl, hw, by rw [ht]; exact hP, va_K.moved hW.alike hK, hD⟩, hS.F ht⟩) hS.2.2 (qaa qeW 3 rfl)))
    · have hw := hw.2.2.2.2.2 c1
      refine lv_tableIn (tgt := 76) (off := 75) hx hb dX4_joined_1 (by rw [c1]; decide) (by rw [c1]; decide) (by rw [c1]; decide) (by decide) ?_
      refine lv_iload_n hx hb (qaa qeW 4 rfl) rfl (lv_at hl 1 rfl) ?_
      refine lv_iload_n hx hb (qaa qeW 5 rfl) rfl (lv_at hl 2 rfl) ?_
      refine lv_icmp_ge (tgt := 85) hx hb (qaa qeW 6 rfl) (by decide) (fun c7 => ?_) (fun c7 => ?_)
      · have hw := hw.1 c7
        refine lv_iload_n hx hb (qaa qeW 9 rfl) rfl (lv_at hl 2 rfl) ?_
        exact ((W.iret (v := p2) hx hb hr (fun t ht hW => ⟨⟨p2, (), rfl, hw, by rw [ht]; exact hP, va_K.moved hW.alike hK, hD⟩, hS.F ht⟩) hS.2.2 (qaa qeW 10 rfl)))
      · have hw := hw.2 c7
        refine lv_iload_n hx hb (qaa qeW 7 rfl) rfl (lv_at hl 1 rfl) ?_
        refine lv_goto (tgt := 86) hx hb (qaa qeW 8 rfl) (by decide) ?_
        exact ((W.iret (v := p1) hx hb hr (fun t ht hW => ⟨⟨p1, (), rfl, hw, by rw [ht]; exact hP, va_K.moved hW.alike hK, hD⟩, hS.F ht⟩) hS.2.2 (qaa qeW 10 rfl)))
theorem qrI : ∀ w ∈ u_ws RX4 TX4 5, w ∈ wsX4_reach := uiM qtp euX4 (by decide +kernel)
theorem q4u : (.fieldLink RX4 15 "MarchHares$Law" "values" "[I" : Cond) ∈ wsX4_reach := qtp 201 (by decide +kernel)
theorem qBV : (.fieldLink RX4 18 "MarchHares$Law" "pile" "[I" : Cond) ∈ wsX4_reach := qtp 202 (by decide +kernel)
theorem qavz : (.fieldLink RX4 21 "MarchHares$Law" "facts" "[I" : Cond) ∈ wsX4_reach := qtp 203 (by decide +kernel)
theorem qaDM : (.fieldLink RX4 27 "MarchHares$Law" "length" "I" : Cond) ∈ wsX4_reach := qtp 208 (by decide +kernel)
theorem qaFL : (.fieldLink RX4 9 "MarchHares$Law" "kinds" "[I" : Cond) ∈ wsX4_reach := qtp 200 (by decide +kernel)
theorem qYP : (.initialized "java/lang/Math" : Cond) ∈ wsX4_reach := qtp 651 (by decide +kernel)
theorem qao8 : (.methodLink RX4 115 Lib.Math.min.name : Cond) ∈ wsX4_reach := qtp 1928 (by decide +kernel)
theorem qarg : (.methodLink RX4 120 Lib.Math.max.name : Cond) ∈ wsX4_reach := qtp 1929 (by decide +kernel)
theorem qajv : (.code Lib.Math.max.name Lib.Math.max.code 2 (some .int) : Cond) ∈ wsX4_reach := qtp 1931 (by decide +kernel)
theorem qann : (.code Lib.Math.min.name Lib.Math.min.code 2 (some .int) : Cond) ∈ wsX4_reach := qtp 652 (by decide +kernel)
theorem qaln : (.static Lib.Math.max.name : Cond) ∈ wsX4_reach := qtp 1930 (by decide +kernel)
theorem qaiX : (.static Lib.Math.min.name : Cond) ∈ wsX4_reach := qtp 650 (by decide +kernel)
set_option maxHeartbeats 4000000 in
set_option maxRecDepth 100000 in
theorem qT5 {p : Program} {l : Launch} {e : Env} {s : State} {m : MethodId} {args : Array Value} {below : List Frame} {meth : Method} {c : Code} {A : Nat → Prop} (dC : Nat → ClassId) (dI : Nat → Nat → Nat) (cyB cyI cyJ cyP : ClassId) (a0 jmH jbU jbu jcJ : Nat) (jb7 : Int32) (jdC jfV jbZ : NI) (Q : Int32 → NI → Prop) (K4 : NI → Int32 → Int32 → Prop) (hK4 : ∀ (H : Heap) (locs : List Loc) (ls : Array Slot) (jnu : NI) (l1 l2 : Int32), va_P (dC, dI) vwCl (qnx a0 jbU jcJ jmH jbu jb7 jmH cyI jnu jbU cyI jdC jcJ cyI jfV jbu cyI jbZ) H → va_D A (qnx a0 jbU jcJ jmH jbu jb7 jmH cyI jnu jbU cyI jdC jcJ cyI jfV jbu cyI jbZ) → va_S A s.heap H locs → lv_has ls 4 [(0, .ref a0), (1, .int l1), (2, .int l2)] → K4 jnu l1 l2 → W p l e (headSpec wsX4_reach ({ frames := 1, cells := 0, slots := 0, locals := 32 })).room s m args below meth c H locs 0 0 (MQ below (va_Qi (fun (r : Int32) (u : NI) => Q r u) (cB (dC, dI) (kT cyB cyI cyJ cyP) A (fun u : NI => ((qnx a0 jbU jcJ jmH jbu jb7 jmH cyI u jbU cyI jdC jcJ cyI jfV jbu cyI jbZ) : va_W))) A) args s 0 0 A) (F0 m 4 ls [])) (C0 : cfx p s m args meth c cX4_reach (some .int) wsX4_reach RX4 4 A (dC, dI) (kT cyB cyI cyJ cyP)) : ∀ (H : Heap) (locs : List Loc) (ls : Array Slot) (jnu : NI) (l1 l2 : Int32), va_P (dC, dI) vwCl (qnx a0 jbU jcJ jmH jbu jb7 jmH cyI jnu jbU cyI jdC jcJ cyI jfV jbu cyI jbZ) H → va_D A (qnx a0 jbU jcJ jmH jbu jb7 jmH cyI jnu jbU cyI jdC jcJ cyI jfV jbu cyI jbZ) → va_S A s.heap H locs → lv_has ls 4 [(0, .ref a0), (1, .int l1), (2, .int l2)] → qKs jb7 jdC jfV jbZ Q K4 jnu l1 l2 → W p l e (headSpec wsX4_reach ({ frames := 1, cells := 0, slots := 0, locals := 32 })).room s m args below meth c H locs 0 0 (MQ below (va_Qi (fun (r : Int32) (u : NI) => Q r u) (cB (dC, dI) (kT cyB cyI cyJ cyP) A (fun u : NI => ((qnx a0 jbU jcJ jmH jbu jb7 jmH cyI u jbU cyI jdC jcJ cyI jfV jbu cyI jbZ) : va_W))) A) args s 0 0 A) (F0 m 98 ls []) := by
  obtain ⟨hx, hb, hr, hts, hown, hlocks, hml, hA, hK, hNw⟩ := id C0
  intro H locs ls jnu l1 l2 hP hD hS hl hw
  obtain ⟨x21, ex21⟩ : ∃ y : Int32, y = l2 + 1 := ⟨_, rfl⟩
  have hw := hw x21 ex21
  refine lv_iinc (v := x21) (lv' := [(2, .int x21), (0, .ref a0), (1, .int l1)]) hx hb (qaa qjj 12 rfl) hl (k := 2) rfl (by rw [ex21]; rfl) (by decide) rfl (fun ls hl => ?_)
  refine lv_goto (tgt := 4) hx hb (qaa qjj 13 rfl) (by decide) ?_
  exact hK4 _ _ _ jnu l1 x21 hP hD hS (lv_sub hl [1, 2, 0] rfl) hw
set_option maxHeartbeats 4000000 in
set_option maxRecDepth 100000 in
theorem q8k {p : Program} {l : Launch} {e : Env} {s : State} {m : MethodId} {args : Array Value} {below : List Frame} {meth : Method} {c : Code} {A : Nat → Prop} (dC : Nat → ClassId) (dI : Nat → Nat → Nat) (cyB cyI cyJ cyP : ClassId) (a0 jmH jbU jbu jcJ : Nat) (jb7 : Int32) (jdC jfV jbZ : NI) (Q : Int32 → NI → Prop) (K4 : NI → Int32 → Int32 → Prop) (hK4 : ∀ (H : Heap) (locs : List Loc) (ls : Array Slot) (jnu : NI) (l1 l2 : Int32), va_P (dC, dI) vwCl (qnx a0 jbU jcJ jmH jbu jb7 jmH cyI jnu jbU cyI jdC jcJ cyI jfV jbu cyI jbZ) H → va_D A (qnx a0 jbU jcJ jmH jbu jb7 jmH cyI jnu jbU cyI jdC jcJ cyI jfV jbu cyI jbZ) → va_S A s.heap H locs → lv_has ls 4 [(0, .ref a0), (1, .int l1), (2, .int l2)] → K4 jnu l1 l2 → W p l e (headSpec wsX4_reach ({ frames := 1, cells := 0, slots := 0, locals := 32 })).room s m args below meth c H locs 0 0 (MQ below (va_Qi (fun (r : Int32) (u : NI) => Q r u) (cB (dC, dI) (kT cyB cyI cyJ cyP) A (fun u : NI => ((qnx a0 jbU jcJ jmH jbu jb7 jmH cyI u jbU cyI jdC jcJ cyI jfV jbu cyI jbZ) : va_W))) A) args s 0 0 A) (F0 m 4 ls [])) (C0 : cfx p s m args meth c cX4_reach (some .int) wsX4_reach RX4 4 A (dC, dI) (kT cyB cyI cyJ cyP)) : ∀ (H : Heap) (locs : List Loc) (ls : Array Slot) (jnu : NI) (l1 l2 s1 s2 : Int32), va_P (dC, dI) vwCl (qnx a0 jbU jcJ jmH jbu jb7 jmH cyI jnu jbU cyI jdC jcJ cyI jfV jbu cyI jbZ) H → va_D A (qnx a0 jbU jcJ jmH jbu jb7 jmH cyI jnu jbU cyI jdC jcJ cyI jfV jbu cyI jbZ) → va_S A s.heap H locs → lv_has ls 4 [(0, .ref a0), (1, .int l1), (2, .int l2)] → qEl jb7 jdC jfV jbZ Q K4 jnu l1 l2 s1 s2 → W p l e (headSpec wsX4_reach ({ frames := 1, cells := 0, slots := 0, locals := 32 })).room s m args below meth c H locs 0 0 (MQ below (va_Qi (fun (r : Int32) (u : NI) => Q r u) (cB (dC, dI) (kT cyB cyI cyJ cyP) A (fun u : NI => ((qnx a0 jbU jcJ jmH jbu jb7 jmH cyI u jbU cyI jdC jcJ cyI jfV jbu cyI jbZ) : va_W))) A) args s 0 0 A) (F0 m 57 ls [.int s2, .int s1, .ref jmH]) := by
  obtain ⟨hx, hb, hr, hts, hown, hlocks, hml, hA, hK, hNw⟩ := id C0
  intro H locs ls jnu l1 l2 s1 s2 hP hD hS hl hw
  obtain ⟨hi9, hw⟩ := hw
  refine va_iast hx hb hK hP hD hS 1 1 rfl rfl hi9 (qaa qki 3 rfl) (fun H locs hP hD hS => ?_)
  obtain ⟨f22, ef22⟩ : ∃ y : NI, y = upd jnu s1.toNatClampNeg s2 := ⟨_, rfl⟩
  have hw := hw f22 ef22
  have hP : va_P (dC, dI) vwCl (qnx a0 jbU jcJ jmH jbu jb7 jmH cyI f22 jbU cyI jdC jcJ cyI jfV jbu cyI jbZ) H := by rw [ef22]; exact hP
  have hD : va_D A (qnx a0 jbU jcJ jmH jbu jb7 jmH cyI f22 jbU cyI jdC jcJ cyI jfV jbu cyI jbZ) := by rw [ef22]; exact hD
  obtain ⟨x23, ex23⟩ : ∃ y : Int32, y = l1 + 1 := ⟨_, rfl⟩
  have hw := hw x23 ex23
  refine lv_iinc (v := x23) (lv' := [(1, .int x23), (0, .ref a0), (2, .int l2)]) hx hb (qaa qki 4 rfl) hl (k := 1) rfl (by rw [ex23]; rfl) (by decide) rfl (fun ls hl => ?_)
  refine lv_goto (tgt := 98) hx hb (qaa qki 5 rfl) (by decide) ?_
  exact qT5 dC dI cyB cyI cyJ cyP a0 jmH jbU jbu jcJ jb7 jdC jfV jbZ Q K4 hK4 C0 _ _ _ f22 x23 l2 hP hD hS (lv_sub hl [1, 0, 2] rfl) hw
set_option maxHeartbeats 4000000 in
set_option maxRecDepth 100000 in
theorem q8m {p : Program} {l : Launch} {e : Env} {s : State} {m : MethodId} {args : Array Value} {below : List Frame} {meth : Method} {c : Code} {A : Nat → Prop} (dC : Nat → ClassId) (dI : Nat → Nat → Nat) (cyB cyI cyJ cyP : ClassId) (a0 jmH jbU jbu jcJ : Nat) (jb7 : Int32) (jdC jfV jbZ : NI) (Q : Int32 → NI → Prop) (K4 : NI → Int32 → Int32 → Prop) (hK4 : ∀ (H : Heap) (locs : List Loc) (ls : Array Slot) (jnu : NI) (l1 l2 : Int32), va_P (dC, dI) vwCl (qnx a0 jbU jcJ jmH jbu jb7 jmH cyI jnu jbU cyI jdC jcJ cyI jfV jbu cyI jbZ) H → va_D A (qnx a0 jbU jcJ jmH jbu jb7 jmH cyI jnu jbU cyI jdC jcJ cyI jfV jbu cyI jbZ) → va_S A s.heap H locs → lv_has ls 4 [(0, .ref a0), (1, .int l1), (2, .int l2)] → K4 jnu l1 l2 → W p l e (headSpec wsX4_reach ({ frames := 1, cells := 0, slots := 0, locals := 32 })).room s m args below meth c H locs 0 0 (MQ below (va_Qi (fun (r : Int32) (u : NI) => Q r u) (cB (dC, dI) (kT cyB cyI cyJ cyP) A (fun u : NI => ((qnx a0 jbU jcJ jmH jbu jb7 jmH cyI u jbU cyI jdC jcJ cyI jfV jbu cyI jbZ) : va_W))) A) args s 0 0 A) (F0 m 4 ls [])) (C0 : cfx p s m args meth c cX4_reach (some .int) wsX4_reach RX4 4 A (dC, dI) (kT cyB cyI cyJ cyP)) : ∀ (H : Heap) (locs : List Loc) (ls : Array Slot) (jnu : NI) (l1 l2 l3 : Int32), va_P (dC, dI) vwCl (qnx a0 jbU jcJ jmH jbu jb7 jmH cyI jnu jbU cyI jdC jcJ cyI jfV jbu cyI jbZ) H → va_D A (qnx a0 jbU jcJ jmH jbu jb7 jmH cyI jnu jbU cyI jdC jcJ cyI jfV jbu cyI jbZ) → va_S A s.heap H locs → lv_has ls 4 [(0, .ref a0), (1, .int l1), (2, .int l2), (3, .int l3)] → qKv jb7 jdC jfV jbZ Q K4 jnu l1 l2 l3 → W p l e (headSpec wsX4_reach ({ frames := 1, cells := 0, slots := 0, locals := 32 })).room s m args below meth c H locs 0 0 (MQ below (va_Qi (fun (r : Int32) (u : NI) => Q r u) (cB (dC, dI) (kT cyB cyI cyJ cyP) A (fun u : NI => ((qnx a0 jbU jcJ jmH jbu jb7 jmH cyI u jbU cyI jdC jcJ cyI jfV jbu cyI jbZ) : va_W))) A) args s 0 0 A) (F0 m 28 ls []) := by
  obtain ⟨hx, hb, hr, hts, hown, hlocks, hml, hA, hK, hNw⟩ := id C0
  intro H locs ls jnu l1 l2 l3 hP hD hS hl hw
  refine lv_aload_n hx hb (qaa qjf 2 rfl) rfl (lv_at hl 0 rfl) ?_
  refine va_get (D := (dC, dI)) (ci := 4) (v := .ref jmH) (C := RX4) (T := TX4) (N := 5) hx hb hts qrI hown hK hP 0 rfl rfl 2 (by decide) (hts _ qBV) (fun _ h9 => h9) rfl (qaa qjf 3 rfl) ?_
  refine lv_iload_n hx hb (qaa qjf 4 rfl) rfl (lv_at hl 1 rfl) ?_
  refine lv_iload_n hx hb (qaa qjf 5 rfl) rfl (lv_at hl 3 rfl) ?_
  refine lv_if_ne (tgt := 46) hx hb (qaa qjf 6 rfl) (by decide) (fun c17 => ?_) (fun c17 => ?_)
  · have hw := hw.1 c17
    refine lv_aload_n hx hb (qaa qjf 12 rfl) rfl (lv_at hl 0 rfl) ?_
    refine va_get (D := (dC, dI)) (ci := 4) (v := .ref jbu) (C := RX4) (T := TX4) (N := 5) hx hb hts qrI hown hK hP 0 rfl rfl 3 (by decide) (hts _ qavz) (fun _ h9 => h9) rfl (qaa qjf 13 rfl) ?_
    refine lv_aload_n hx hb (qaa qjf 14 rfl) rfl (lv_at hl 0 rfl) ?_
    refine va_get (D := (dC, dI)) (ci := 4) (v := .ref jcJ) (C := RX4) (T := TX4) (N := 5) hx hb hts qrI hown hK hP 0 rfl rfl 1 (by decide) (hts _ q4u) (fun _ h9 => h9) rfl (qaa qjf 15 rfl) ?_
    refine lv_iload_n hx hb (qaa qki 0 rfl) rfl (lv_at hl 2 rfl) ?_
    obtain ⟨hi9, hw⟩ := hw
    refine va_iald hx hb hK hP 3 1 rfl rfl hi9 (qaa qki 1 rfl) ?_
    refine lv_topi (fun x18 ex18 => ?_)
    have hw := hw x18 ex18
    obtain ⟨hi9, hw⟩ := hw
    refine va_iald hx hb hK hP 4 1 rfl rfl hi9 (qaa qki 2 rfl) ?_
    refine lv_topi (fun x19 ex19 => ?_)
    have hw := hw x19 ex19
    exact q8k dC dI cyB cyI cyJ cyP a0 jmH jbU jbu jcJ jb7 jdC jfV jbZ Q K4 hK4 C0 _ _ _ jnu l1 l2 l1 x19 hP hD hS (lv_sub hl [0, 1, 2] rfl) hw
  · have hw := hw.2 c17
    refine lv_aload_n hx hb (qaa qjf 7 rfl) rfl (lv_at hl 0 rfl) ?_
    refine va_get (D := (dC, dI)) (ci := 4) (v := .ref jcJ) (C := RX4) (T := TX4) (N := 5) hx hb hts qrI hown hK hP 0 rfl rfl 1 (by decide) (hts _ q4u) (fun _ h9 => h9) rfl (qaa qjf 8 rfl) ?_
    refine lv_iload_n hx hb (qaa qjf 9 rfl) rfl (lv_at hl 2 rfl) ?_
    obtain ⟨hi9, hw⟩ := hw
    refine va_iald hx hb hK hP 3 1 rfl rfl hi9 (qaa qjf 10 rfl) ?_
    refine lv_topi (fun x20 ex20 => ?_)
    have hw := hw x20 ex20
    refine lv_goto (tgt := 57) hx hb (qaa qjf 11 rfl) (by decide) ?_
    exact q8k dC dI cyB cyI cyJ cyP a0 jmH jbU jbu jcJ jb7 jdC jfV jbZ Q K4 hK4 C0 _ _ _ jnu l1 l2 l1 x20 hP hD hS (lv_sub hl [0, 1, 2] rfl) hw
set_option maxHeartbeats 4000000 in
set_option maxRecDepth 100000 in
theorem q2Q {p : Program} {l : Launch} {e : Env} {s : State} {m : MethodId} {args : Array Value} {below : List Frame} {meth : Method} {c : Code} {A : Nat → Prop} (dC : Nat → ClassId) (dI : Nat → Nat → Nat) (cyB cyI cyJ cyP : ClassId) (a0 jmH jbU jbu jcJ : Nat) (jb7 : Int32) (jdC jfV jbZ : NI) (Q : Int32 → NI → Prop) (C0 : cfx p s m args meth c cX4_reach (some .int) wsX4_reach RX4 4 A (dC, dI) (kT cyB cyI cyJ cyP)) : ∀ (H : Heap) (locs : List Loc) (ls : Array Slot) (jnu : NI) (s0 : Int32), va_P (dC, dI) vwCl (qnx a0 jbU jcJ jmH jbu jb7 jmH cyI jnu jbU cyI jdC jcJ cyI jfV jbu cyI jbZ) H → va_D A (qnx a0 jbU jcJ jmH jbu jb7 jmH cyI jnu jbU cyI jdC jcJ cyI jfV jbu cyI jbZ) → va_S A s.heap H locs → lv_has ls 4 [] → qH7 jb7 jdC jfV jbZ Q jnu s0 → W p l e (headSpec wsX4_reach ({ frames := 1, cells := 0, slots := 0, locals := 32 })).room s m args below meth c H locs 0 0 (MQ below (va_Qi (fun (r : Int32) (u : NI) => Q r u) (cB (dC, dI) (kT cyB cyI cyJ cyP) A (fun u : NI => ((qnx a0 jbU jcJ jmH jbu jb7 jmH cyI u jbU cyI jdC jcJ cyI jfV jbu cyI jbZ) : va_W))) A) args s 0 0 A) (F0 m 118 ls [.int s0]) := by
  obtain ⟨hx, hb, hr, hts, hown, hlocks, hml, hA, hK, hNw⟩ := id C0
  intro H locs ls jnu s0 hP hD hS hl hw
  refine lv_istore_n (lv' := [(2, .int s0)]) hx hb (qaa qm1 6 rfl) rfl hl (by decide) rfl (fun ls hl => ?_)
  refine lv_iconst (v := 0) hx hb (qaa qm1 7 rfl) (by decide) ?_
  refine lv_bipush (v := 60) hx hb (qaa qm1 8 rfl) (by decide) ?_
  refine lv_iload_n hx hb (qaa qm1 9 rfl) rfl (lv_at hl 0 rfl) ?_
  refine va_mmin hx hb (by rw [hml]; exact hl.1.symm) hown (hts _ qao8) (hts _ qaiX) (hts _ qYP) (hts _ qann) (nbq rfl) (nbq rfl) (nbq rfl) (nbq rfl) (qaa qm1 10 rfl) ?_
  refine lv_topi (fun x15 ex15 => ?_)
  have hw := hw x15 ex15
  refine va_mmax hx hb (by rw [hml]; exact hl.1.symm) hown (hts _ qarg) (hts _ qaln) (hts _ qYP) (hts _ qajv) (nbq rfl) (nbq rfl) (nbq rfl) (nbq rfl) (qaa qm1 11 rfl) ?_
  refine lv_topi (fun x16 ex16 => ?_)
  have hw := hw x16 ex16
  exact ((W.iret (v := x16) hx hb hr (fun t ht hW => ⟨⟨x16, (jnu), rfl, hw, by rw [ht]; exact hP, va_K.moved hW.alike hK, hD⟩, hS.F ht⟩) hS.2.2 (qaa qm1 12 rfl)))
set_option maxHeartbeats 4000000 in
set_option maxRecDepth 100000 in
theorem qaO6 {p : Program} {l : Launch} {e : Env} {s : State} {m : MethodId} {args : Array Value} {below : List Frame} {meth : Method} {c : Code} {A : Nat → Prop} (dC : Nat → ClassId) (dI : Nat → Nat → Nat) (cyB cyI cyJ cyP : ClassId) (a0 jmH jbU jbu jcJ : Nat) (jb7 : Int32) (jdC jfV jbZ : NI) (Q : Int32 → NI → Prop) (C0 : cfx p s m args meth c cX4_reach (some .int) wsX4_reach RX4 4 A (dC, dI) (kT cyB cyI cyJ cyP)) : ∀ (n : Nat) (H : Heap) (locs : List Loc) (ls : Array Slot) (jnu : NI) (l1 l2 : Int32), va_P (dC, dI) vwCl (qnx a0 jbU jcJ jmH jbu jb7 jmH cyI jnu jbU cyI jdC jcJ cyI jfV jbu cyI jbZ) H → va_D A (qnx a0 jbU jcJ jmH jbu jb7 jmH cyI jnu jbU cyI jdC jcJ cyI jfV jbu cyI jbZ) → va_S A s.heap H locs → lv_has ls 4 [(0, .ref a0), (1, .int l1), (2, .int l2)] → qlx jb7 jdC jfV jbZ Q n jnu l1 l2 → W p l e (headSpec wsX4_reach ({ frames := 1, cells := 0, slots := 0, locals := 32 })).room s m args below meth c H locs 0 0 (MQ below (va_Qi (fun (r : Int32) (u : NI) => Q r u) (cB (dC, dI) (kT cyB cyI cyJ cyP) A (fun u : NI => ((qnx a0 jbU jcJ jmH jbu jb7 jmH cyI u jbU cyI jdC jcJ cyI jfV jbu cyI jbZ) : va_W))) A) args s 0 0 A) (F0 m 4 ls []) := by
  obtain ⟨hx, hb, hr, hts, hown, hlocks, hml, hA, hK, hNw⟩ := id C0
  intro n
  induction n with
  | zero => intro H locs ls jnu l1 l2 hP hD hS hl hw; exact False.elim hw
  | succ n ih =>
    intro H locs ls jnu l1 l2 hP hD hS hl hw
    refine lv_iload_n hx hb (qaa qmw 4 rfl) rfl (lv_at hl 2 rfl) ?_
    refine lv_aload_n hx hb (qaa qmw 5 rfl) rfl (lv_at hl 0 rfl) ?_
    refine va_get (D := (dC, dI)) (ci := 4) (v := .int jb7) (C := RX4) (T := TX4) (N := 5) hx hb hts qrI hown hK hP 0 rfl rfl 4 (by decide) (hts _ qaDM) (fun _ h9 => h9) rfl (qaa qmw 6 rfl) ?_
    refine lv_icmp_ge (tgt := 104) hx hb (qaa qmw 7 rfl) (by decide) (fun c1 => ?_) (fun c1 => ?_)
    · have hw := hw.1 c1
      refine lv_iload_n hx hb (qaa qjj 14 rfl) rfl (lv_at hl 1 rfl) ?_
      refine lv_if_le (tgt := 117) hx hb (qaa qjj 15 rfl) (by decide) (fun c2 => ?_) (fun c2 => ?_)
      · have hw := hw.1 c2
        refine lv_iconst (v := 0) hx hb (qaa qm1 5 rfl) (by decide) ?_
        exact q2Q dC dI cyB cyI cyJ cyP a0 jmH jbU jbu jcJ jb7 jdC jfV jbZ Q C0 _ _ _ jnu 0 hP hD hS (lv_sub hl [] rfl) hw
      · have hw := hw.2 c2
        refine lv_aload_n hx hb (qaa qm1 0 rfl) rfl (lv_at hl 0 rfl) ?_
        refine va_get (D := (dC, dI)) (ci := 4) (v := .ref jmH) (C := RX4) (T := TX4) (N := 5) hx hb hts qrI hown hK hP 0 rfl rfl 2 (by decide) (hts _ qBV) (fun _ h9 => h9) rfl (qaa qm1 1 rfl) ?_
        refine lv_iconst (v := 0) hx hb (qaa qm1 2 rfl) (by decide) ?_
        refine va_iald hx hb hK hP 1 1 rfl rfl (vin (by decide)) (qaa qm1 3 rfl) ?_
        refine lv_topi (fun x3 ex3 => ?_)
        have hw := hw x3 ex3
        refine lv_goto (tgt := 118) hx hb (qaa qm1 4 rfl) (by decide) ?_
        exact q2Q dC dI cyB cyI cyJ cyP a0 jmH jbU jbu jcJ jb7 jdC jfV jbZ Q C0 _ _ _ jnu x3 hP hD hS (lv_sub hl [] rfl) hw
    · have hw := hw.2 c1
      refine lv_aload_n hx hb (qaa qmw 8 rfl) rfl (lv_at hl 0 rfl) ?_
      refine va_get (D := (dC, dI)) (ci := 4) (v := .ref jbU) (C := RX4) (T := TX4) (N := 5) hx hb hts qrI hown hK hP 0 rfl rfl 0 (by decide) (hts _ qaFL) (fun _ h9 => h9) rfl (qaa qmw 9 rfl) ?_
      refine lv_iload_n hx hb (qaa qmw 10 rfl) rfl (lv_at hl 2 rfl) ?_
      obtain ⟨hi9, hw⟩ := hw
      refine va_iald hx hb hK hP 2 1 rfl rfl hi9 (qaa qmw 11 rfl) ?_
      refine lv_topi (fun x4 ex4 => ?_)
      have hw := hw x4 ex4
      refine lv_istore_n (lv' := [(3, .int x4), (0, .ref a0), (1, .int l1), (2, .int l2)]) hx hb (qaa qmw 12 rfl) rfl hl (by decide) rfl (fun ls hl => ?_)
      refine lv_iload_n hx hb (qaa qmw 13 rfl) rfl (lv_at hl 0 rfl) ?_
      refine lv_if_eq (tgt := 28) hx hb (qaa qmw 14 rfl) (by decide) (fun c5 => ?_) (fun c5 => ?_)
      · have hw := hw.1 c5
        exact q8m dC dI cyB cyI cyJ cyP a0 jmH jbU jbu jcJ jb7 jdC jfV jbZ Q (qlx jb7 jdC jfV jbZ Q n) ih C0 _ _ _ jnu l1 l2 x4 hP hD hS (lv_sub hl [1, 2, 3, 0] rfl) hw
      · have hw := hw.2 c5
        refine lv_iload_n hx hb (qaa qmw 15 rfl) rfl (lv_at hl 0 rfl) ?_
        refine lv_iconst (v := 1) hx hb (qaa qjf 0 rfl) (by decide) ?_
        refine lv_icmp_ne (tgt := 64) hx hb (qaa qjf 1 rfl) (by decide) (fun c6 => ?_) (fun c6 => ?_)
        · have hw := hw.1 c6
          refine lv_iload_n hx hb (qaa qki 6 rfl) rfl (lv_at hl 2 rfl) ?_
          refine lv_iconst (v := 2) hx hb (qaa qki 7 rfl) (by decide) ?_
          refine lv_icmp_lt (tgt := 98) hx hb (qaa qki 8 rfl) (by decide) (fun c7 => ?_) (fun c7 => ?_)
          · have hw := hw.1 c7
            exact qT5 dC dI cyB cyI cyJ cyP a0 jmH jbU jbu jcJ jb7 jdC jfV jbZ Q (qlx jb7 jdC jfV jbZ Q n) ih C0 _ _ _ jnu l1 l2 hP hD hS (lv_sub hl [1, 2, 3] rfl) hw
          · have hw := hw.2 c7
            obtain ⟨x8, ex8⟩ : ∃ y : Int32, y = l1 + (-1) := ⟨_, rfl⟩
            have hw := hw x8 ex8
            refine lv_iinc (v := x8) (lv' := [(1, .int x8), (3, .int x4), (0, .ref a0), (2, .int l2)]) hx hb (qaa qki 9 rfl) hl (k := 2) rfl (by rw [ex8]; rfl) (by decide) rfl (fun ls hl => ?_)
            refine lv_aload_n hx hb (qaa qki 10 rfl) rfl (lv_at hl 2 rfl) ?_
            refine va_get (D := (dC, dI)) (ci := 4) (v := .ref jmH) (C := RX4) (T := TX4) (N := 5) hx hb hts qrI hown hK hP 0 rfl rfl 2 (by decide) (hts _ qBV) (fun _ h9 => h9) rfl (qaa qki 11 rfl) ?_
            refine lv_iload_n hx hb (qaa qki 12 rfl) rfl (lv_at hl 0 rfl) ?_
            refine lv_iconst (v := 1) hx hb (qaa qki 13 rfl) (by decide) ?_
            refine lv_isub hx hb (qaa qki 14 rfl) ?_
            refine lv_topi (fun x9 ex9 => ?_)
            have hw := hw x9 ex9
            refine lv_iload_n hx hb (qaa qki 15 rfl) rfl (lv_at hl 1 rfl) ?_
            refine lv_aload_n hx hb (qaa qjj 0 rfl) rfl (lv_at hl 2 rfl) ?_
            refine va_get (D := (dC, dI)) (ci := 4) (v := .ref jmH) (C := RX4) (T := TX4) (N := 5) hx hb hts qrI hown hK hP 0 rfl rfl 2 (by decide) (hts _ qBV) (fun _ h9 => h9) rfl (qaa qjj 1 rfl) ?_
            refine lv_iload_n hx hb (qaa qjj 2 rfl) rfl (lv_at hl 0 rfl) ?_
            refine lv_iconst (v := 1) hx hb (qaa qjj 3 rfl) (by decide) ?_
            refine lv_isub hx hb (qaa qjj 4 rfl) ?_
            refine lv_topi (fun x10 ex10 => ?_)
            have hw := hw x10 ex10
            obtain ⟨hi9, hw⟩ := hw
            refine va_iald hx hb hK hP 1 1 rfl rfl hi9 (qaa qjj 5 rfl) ?_
            refine lv_topi (fun x11 ex11 => ?_)
            have hw := hw x11 ex11
            refine lv_aload_n hx hb (qaa qjj 6 rfl) rfl (lv_at hl 2 rfl) ?_
            refine va_get (D := (dC, dI)) (ci := 4) (v := .ref jmH) (C := RX4) (T := TX4) (N := 5) hx hb hts qrI hown hK hP 0 rfl rfl 2 (by decide) (hts _ qBV) (fun _ h9 => h9) rfl (qaa qjj 7 rfl) ?_
            refine lv_iload_n hx hb (qaa qjj 8 rfl) rfl (lv_at hl 0 rfl) ?_
            obtain ⟨hi9, hw⟩ := hw
            refine va_iald hx hb hK hP 1 1 rfl rfl hi9 (qaa qjj 9 rfl) ?_
            refine lv_topi (fun x12 ex12 => ?_)
            have hw := hw x12 ex12
            obtain ⟨hCc, hPc, hDc, hFc⟩ := qac (ws' := []) hP hD hS hA [] (by decide +kernel) rfl
            refine va_calli (va_runS (As := [.int x4, .int x11, .int x12]) (rest := [.int x9, .ref jmH]) ⟨hx, hb, hml, hown, hts⟩ (qaVc l dC dI cyB cyI cyJ cyP H.size x4 x11 x12 hw) (va_cwS 3 hts gX4_reach_X4_joined rfl rfl rfl (by decide +kernel) ⟨nbq rfl, nbq rfl⟩) ⟨qab, qae hPc hK hDc hNw⟩ rfl rfl hl.1 rfl (lv_room (nbq rfl)) (qaa qjj 10 rfl) ⟨nbq rfl, nbq rfl⟩) hS (fun q _ h => hFc q h) hFc (fun r13 u t H1 locs ht hvm hw hB hz1 hk1 hS => ?_)
            obtain ⟨hP1, hK1, hD1⟩ := hB
            rw [ht] at hP1
            obtain ⟨hP, hD⟩ := qah (wr := (qnx a0 jbU jcJ jmH jbu jb7 jmH cyI jnu jbU cyI jdC jcJ cyI jfV jbu cyI jbZ)) (w1 := []) (wn := (qnx a0 jbU jcJ jmH jbu jb7 jmH cyI jnu jbU cyI jdC jcJ cyI jfV jbu cyI jbZ)) hP hD [] [0, 1, 2, 3, 4] hCc rfl (by decide +kernel) (by decide +kernel) rfl hk1 hFc hP1 hD1
            generalize H1 = H at hP hS ⊢
            obtain ⟨hi9, hw⟩ := hw
            refine va_iast hx hb hK hP hD hS 1 1 rfl rfl hi9 (qaa qjj 11 rfl) (fun H locs hP hD hS => ?_)
            obtain ⟨f14, ef14⟩ : ∃ y : NI, y = upd jnu x9.toNatClampNeg r13 := ⟨_, rfl⟩
            have hw := hw f14 ef14
            have hP : va_P (dC, dI) vwCl (qnx a0 jbU jcJ jmH jbu jb7 jmH cyI f14 jbU cyI jdC jcJ cyI jfV jbu cyI jbZ) H := by rw [ef14]; exact hP
            have hD : va_D A (qnx a0 jbU jcJ jmH jbu jb7 jmH cyI f14 jbU cyI jdC jcJ cyI jfV jbu cyI jbZ) := by rw [ef14]; exact hD
            exact qT5 dC dI cyB cyI cyJ cyP a0 jmH jbU jbu jcJ jb7 jdC jfV jbZ Q (qlx jb7 jdC jfV jbZ Q n) ih C0 _ _ _ f14 x8 l2 hP hD hS (lv_sub hl [2, 0, 3] rfl) hw
        · have hw := hw.2 c6
          exact q8m dC dI cyB cyI cyJ cyP a0 jmH jbU jbu jcJ jb7 jdC jfV jbZ Q (qlx jb7 jdC jfV jbZ Q n) ih C0 _ _ _ jnu l1 l2 x4 hP hD hS (lv_sub hl [1, 2, 3, 0] rfl) hw
set_option maxHeartbeats 4000000 in
set_option maxRecDepth 100000 in
theorem qaxv (l : Launch) (dC : Nat → ClassId) (dI : Nat → Nat → Nat) (cyB cyI cyJ cyP : ClassId) (a0 jmH jbU jbu jcJ sz : Nat) (jb7 : Int32) (jdC jfV jbZ jnu : NI) {Q : Int32 → NI → Prop} (hw : qPs jb7 jdC jfV jbZ jnu Q) : Met l yX4_reach wsX4_reach ({ frames := 1, cells := 0, slots := 0, locals := 32 }) (va_Pc [.ref a0] (cPc (dC, dI) (kT cyB cyI cyJ cyP) (qnx a0 jbU jcJ jmH jbu jb7 jmH cyI jnu jbU cyI jdC jcJ cyI jfV jbu cyI jbZ) sz)) (va_Qi (fun (r : Int32) (u : NI) => Q r u) (cB (dC, dI) (kT cyB cyI cyJ cyP) (va_A (qnx a0 jbU jcJ jmH jbu jb7 jmH cyI jnu jbU cyI jdC jcJ cyI jfV jbu cyI jbZ) sz) (fun u : NI => ((qnx a0 jbU jcJ jmH jbu jb7 jmH cyI u jbU cyI jdC jcJ cyI jfV jbu cyI jbZ) : va_W))) (va_A (qnx a0 jbU jcJ jmH jbu jb7 jmH cyI jnu jbU cyI jdC jcJ cyI jfV jbu cyI jbZ) sz)) 0 0 (va_A (qnx a0 jbU jcJ jmH jbu jb7 jmH cyI jnu jbU cyI jdC jcJ cyI jfV jbu cyI jbZ) sz) := by
  refine Met.ofW (cc := cX4_reach) (maxL := 4) (ret := (some .int)) (by decide) rfl ?_
  intro p e s m args below meth c s₁ B hml hv
  obtain ⟨rfl, hsz, hP, hK, hD0, hNw⟩ := hv
  have hx := B.exec
  have hb := B.bytes
  have hr := B.returns
  have hts := atoms_spec (ws := wsX4_reach) B.pre
  have hown : s.vm.findClass RX4 = some m.cls := findClass_of_methodNamed B.named
  have hlocks := B.notSynchronized
  subst hsz
  have hD := hD0.self (sz := s.heap.size)
  generalize hAe : va_A (qnx a0 jbU jcJ jmH jbu jb7 jmH cyI jnu jbU cyI jdC jcJ cyI jfV jbu cyI jbZ) s.heap.size = A at hD ⊢
  have hA : ∀ q : Nat, s.heap.size ≤ q → A q := fun q h => by rw [← hAe]; exact Or.inr h
  have hS : va_S A s.heap s.heap [] := va_S.rf
  have hP : va_P (dC, dI) vwCl (qnx a0 jbU jcJ jmH jbu jb7 jmH cyI jnu jbU cyI jdC jcJ cyI jfV jbu cyI jbZ) s.heap := hP
  have hl := lv_entry ([.ref a0]) (n := 4) (nbq rfl)
  rw [lg_entry_eq]
  generalize (lg_sl ([.ref a0]) ++ List.replicate (4 - (lg_sl ([.ref a0])).length) Slot.unset).toArray = ls at hl ⊢
  have hl : lv_has ls 4 [(0, .ref a0)] := hl
  have C0 : cfx p s m _ meth c cX4_reach (some .int) wsX4_reach RX4 4 A (dC, dI) (kT cyB cyI cyJ cyP) := ⟨hx, hb, hr, hts, hown, hlocks, hml, hA, hK, hNw⟩
  clear hAe
  obtain ⟨H, hH⟩ : ∃ H, H = s.heap := ⟨_, rfl⟩
  rw [← hH] at hP ⊢
  have hS : va_S A s.heap H [] := by rw [hH]; exact va_S.rf
  have hS := hS
  refine lv_iconst (v := 0) hx hb (qaa qmw 0 rfl) (by decide) ?_
  refine lv_istore_n (lv' := [(1, .int 0), (0, .ref a0)]) hx hb (qaa qmw 1 rfl) rfl hl (by decide) rfl (fun ls hl => ?_)
  refine lv_iconst (v := 0) hx hb (qaa qmw 2 rfl) (by decide) ?_
  refine lv_istore_n (lv' := [(2, .int 0), (1, .int 0), (0, .ref a0)]) hx hb (qaa qmw 3 rfl) rfl hl (by decide) rfl (fun ls hl => ?_)
  obtain ⟨n9, hw⟩ := hw
  exact qaO6 dC dI cyB cyI cyJ cyP a0 jmH jbU jbu jcJ jb7 jdC jfV jbZ Q C0 n9 _ _ _ jnu 0 0 hP hD hS (lv_sub hl [2, 1, 0] rfl) hw
theorem qUk : ∀ w ∈ u_ws RX1 TX1 4, w ∈ wsX1_reach := uiM qiw qV8 (by decide +kernel)
theorem qO9 : (.fieldLink RX1 28 "MarchHares$Days" "law" "LMarchHares$Law;" : Cond) ∈ wsX1_reach := qiw 323 (by decide +kernel)
set_option maxHeartbeats 4000000 in
set_option maxRecDepth 100000 in
theorem qXl (l : Launch) (dC : Nat → ClassId) (dI : Nat → Nat → Nat) (cyB cyI cyJ cyP : ClassId) (a0 jch jfB jk3 ji0 jjb ji1 jiI sz : Nat) (jcD jhp jhq jgi jgj jgk jgz jfR jgl jgO jfS jiB : Value) (jdE : NI) (jc5 jj9 : Int32) (jkK jkj jlg jlp : NI) (p1 : Int32) {Q : Int32 → NI → NI → Prop} (hw : qFu jdE jc5 jj9 jkK jkj jlg jlp p1 Q) : Met l yX1_reach wsX1_reach ({ frames := 2, cells := 0, slots := 0, locals := 55 }) (va_Pc [.ref a0, .int p1] (cPc (dC, dI) (kT cyB cyI cyJ cyP) (qyU a0 jch jcD jfB jk3 jch cyI jdE jfB jhp jhq jgi jgj jgk jgz jfR jgl jgO jc5 jfS jiB jk3 ji1 jiI jjb ji0 jj9 ji0 cyI jlg jjb cyI jlp ji1 cyI jkK jiI cyI jkj) sz)) (va_Qi (fun (r : Int32) (u : NI × NI) => Q r u.1 u.2) (cB (dC, dI) (kT cyB cyI cyJ cyP) (va_A (qyU a0 jch jcD jfB jk3 jch cyI jdE jfB jhp jhq jgi jgj jgk jgz jfR jgl jgO jc5 jfS jiB jk3 ji1 jiI jjb ji0 jj9 ji0 cyI jlg jjb cyI jlp ji1 cyI jkK jiI cyI jkj) sz) (fun u : NI × NI => ((qyU a0 jch jcD jfB jk3 jch cyI jdE jfB jhp jhq jgi jgj jgk jgz jfR jgl jgO jc5 jfS jiB jk3 ji1 jiI jjb ji0 jj9 ji0 cyI u.1 jjb cyI u.2 ji1 cyI jkK jiI cyI jkj) : va_W))) (va_A (qyU a0 jch jcD jfB jk3 jch cyI jdE jfB jhp jhq jgi jgj jgk jgz jfR jgl jgO jc5 jfS jiB jk3 ji1 jiI jjb ji0 jj9 ji0 cyI jlg jjb cyI jlp ji1 cyI jkK jiI cyI jkj) sz)) 0 0 (va_A (qyU a0 jch jcD jfB jk3 jch cyI jdE jfB jhp jhq jgi jgj jgk jgz jfR jgl jgO jc5 jfS jiB jk3 ji1 jiI jjb ji0 jj9 ji0 cyI jlg jjb cyI jlp ji1 cyI jkK jiI cyI jkj) sz) := by
  refine Met.ofW (cc := cX1_reach) (maxL := 3) (ret := (some .int)) (by decide) rfl ?_
  intro p e s m args below meth c s₁ B hml hv
  obtain ⟨rfl, hsz, hP, hK, hD0, hNw⟩ := hv
  have hx := B.exec
  have hb := B.bytes
  have hr := B.returns
  have hts := atoms_spec (ws := wsX1_reach) B.pre
  have hown : s.vm.findClass RX1 = some m.cls := findClass_of_methodNamed B.named
  have hlocks := B.notSynchronized
  subst hsz
  have hD := hD0.self (sz := s.heap.size)
  generalize hAe : va_A (qyU a0 jch jcD jfB jk3 jch cyI jdE jfB jhp jhq jgi jgj jgk jgz jfR jgl jgO jc5 jfS jiB jk3 ji1 jiI jjb ji0 jj9 ji0 cyI jlg jjb cyI jlp ji1 cyI jkK jiI cyI jkj) s.heap.size = A at hD ⊢
  have hA : ∀ q : Nat, s.heap.size ≤ q → A q := fun q h => by rw [← hAe]; exact Or.inr h
  have hS : va_S A s.heap s.heap [] := va_S.rf
  have hP : va_P (dC, dI) vwCl (qyU a0 jch jcD jfB jk3 jch cyI jdE jfB jhp jhq jgi jgj jgk jgz jfR jgl jgO jc5 jfS jiB jk3 ji1 jiI jjb ji0 jj9 ji0 cyI jlg jjb cyI jlp ji1 cyI jkK jiI cyI jkj) s.heap := hP
  have hl := lv_entry ([.ref a0, .int p1]) (n := 3) (nbq rfl)
  rw [lg_entry_eq]
  generalize (lg_sl ([.ref a0, .int p1]) ++ List.replicate (3 - (lg_sl ([.ref a0, .int p1])).length) Slot.unset).toArray = ls at hl ⊢
  have hl : lv_has ls 3 [(0, .ref a0), (1, .int p1)] := hl
  have C0 : cfx p s m _ meth c cX1_reach (some .int) wsX1_reach RX1 3 A (dC, dI) (kT cyB cyI cyJ cyP) := ⟨hx, hb, hr, hts, hown, hlocks, hml, hA, hK, hNw⟩
  clear hAe
  obtain ⟨H, hH⟩ : ∃ H, H = s.heap := ⟨_, rfl⟩
  rw [← hH] at hP ⊢
  have hS : va_S A s.heap H [] := by rw [hH]; exact va_S.rf
  have hS := hS
  refine lv_aload_n hx hb (qaa qlL 0 rfl) rfl (lv_at hl 0 rfl) ?_
  refine lv_aload_n hx hb (qaa qlL 1 rfl) rfl (lv_at hl 0 rfl) ?_
  refine lv_iload_n hx hb (qaa qlL 2 rfl) rfl (lv_at hl 1 rfl) ?_
  obtain ⟨hCc, hPc, hDc, hFc⟩ := qac (ws' := (qDB a0 jch jcD jfB jk3 jch cyI jdE)) hP hD hS hA [0, 1] (by decide +kernel) rfl
  refine va_calli (va_runV (As := [.int p1]) (rest := [.ref a0]) ⟨hx, hb, hml, hown, hts⟩ (qvC l dC dI cyB cyI cyJ cyP a0 jch H.size (jcD) (.ref jfB) (.ref jk3) jdE p1 hw) (cwV 1 hts gX1_reach_X1_sits rfl rfl rfl (by decide +kernel) ⟨nbq rfl, nbq rfl⟩) ⟨qab, va_recv (q := (RX1, TX1, 4)) hK hPc (ci := 1) (q0 := 0) rfl rfl, qae hPc hK hDc hNw⟩ rfl rfl hl.1 rfl (lv_room (nbq rfl)) (qaa qlL 3 rfl) ⟨nbq rfl, nbq rfl⟩) hS (fun q _ h => hFc q h) hFc (fun r1 u t H1 locs ht hvm hw hB hz1 hk1 hS => ?_)
  obtain ⟨hP1, hK1, hD1⟩ := hB
  rw [ht] at hP1
  obtain ⟨hP, hD⟩ := qad (wr := (qaAd jfB jhp jhq jgi jgj jgk jgz jfR jgl jgO jc5 jfS jiB jk3 ji1 jiI jjb ji0 jj9 ji0 cyI jlg jjb cyI jlp ji1 cyI jkK jiI cyI jkj)) (w1 := (qDB a0 jch jcD jfB jk3 jch cyI jdE)) (wn := (qyU a0 jch jcD jfB jk3 jch cyI jdE jfB jhp jhq jgi jgj jgk jgz jfR jgl jgO jc5 jfS jiB jk3 ji1 jiI jjb ji0 jj9 ji0 cyI jlg jjb cyI jlp ji1 cyI jkK jiI cyI jkj)) hP hD [0, 1] [2, 3, 4, 5, 6, 7] [6, 7, 0, 1, 2, 3, 4, 5] hCc rfl (by decide +kernel) (by decide +kernel) (by decide +kernel) rfl hk1 hFc hP1 hD1
  generalize H1 = H at hP hS ⊢
  obtain ⟨hCc, hPc, hDc, hFc⟩ := qac (ws' := (qakS a0 jch jcD jfB jk3 jfB jhp jhq jgi jgj jgk jgz jfR jgl jgO jc5 jfS jiB jch cyI jdE)) hP hD hS hA [0, 2, 1] (by decide +kernel) rfl
  refine va_calli (va_runV (As := [.int r1]) (rest := []) ⟨hx, hb, hml, hown, hts⟩ (qTQ l dC dI cyB cyI cyJ cyP a0 jfB jch H.size (jcD) (.ref jk3) (jhp) (jhq) (jgi) (jgj) (jgk) (jgz) (jfR) (jgl) (jgO) (jfS) (jiB) jc5 jdE r1 hw) (cwV 1 hts gX1_reach_X1_seatedIn rfl rfl rfl (by decide +kernel) ⟨nbq rfl, nbq rfl⟩) ⟨qab, va_recv (q := (RX1, TX1, 4)) hK hPc (ci := 1) (q0 := 0) rfl rfl, qae hPc hK hDc hNw⟩ rfl rfl hl.1 rfl (lv_room (nbq rfl)) (qaa qlL 4 rfl) ⟨nbq rfl, nbq rfl⟩) hS (fun q _ h => hFc q h) hFc (fun r2 u t H1 locs ht hvm hw hB hz1 hk1 hS => ?_)
  obtain ⟨hP1, hK1, hD1⟩ := hB
  rw [ht] at hP1
  obtain ⟨hP, hD⟩ := qad (wr := (qaXH jk3 ji1 jiI jjb ji0 jj9 ji0 cyI jlg jjb cyI jlp ji1 cyI jkK jiI cyI jkj)) (w1 := (qakS a0 jch jcD jfB jk3 jfB jhp jhq jgi jgj jgk jgz jfR jgl jgO jc5 jfS jiB jch cyI jdE)) (wn := (qyU a0 jch jcD jfB jk3 jch cyI jdE jfB jhp jhq jgi jgj jgk jgz jfR jgl jgO jc5 jfS jiB jk3 ji1 jiI jjb ji0 jj9 ji0 cyI jlg jjb cyI jlp ji1 cyI jkK jiI cyI jkj)) hP hD [0, 2, 1] [3, 4, 5, 6, 7] [5, 7, 6, 0, 1, 2, 3, 4] hCc rfl (by decide +kernel) (by decide +kernel) (by decide +kernel) rfl hk1 hFc hP1 hD1
  generalize H1 = H at hP hS ⊢
  refine lv_iconst (v := 1) hx hb (qaa qlL 5 rfl) (by decide) ?_
  refine lv_iload_n hx hb (qaa qlL 6 rfl) rfl (lv_at hl 1 rfl) ?_
  refine lv_ishl hx hb (qaa qlL 7 rfl) ?_
  refine lv_iconst (v := (-1)) hx hb (qaa qlL 8 rfl) (by decide) ?_
  refine lv_ixor hx hb (qaa qlL 9 rfl) ?_
  refine lv_iand hx hb (qaa qlL 10 rfl) ?_
  obtain ⟨hCc, hPc, hDc, hFc⟩ := qac (ws' := []) hP hD hS hA [] (by decide +kernel) rfl
  refine va_calli (va_runS (As := [.int (r2 &&& ((1 <<< (p1 &&& 31)) ^^^ (-1)))]) (rest := []) ⟨hx, hb, hml, hown, hts⟩ (qxT l dC dI cyB cyI cyJ cyP H.size (r2 &&& ((1 <<< (p1 &&& 31)) ^^^ (-1))) hw) (va_cwS 1 hts gX1_reach_J6_bitCount_0f7a4 rfl rfl rfl (by decide +kernel) ⟨nbq rfl, nbq rfl⟩) ⟨qab, qae hPc hK hDc hNw⟩ rfl rfl hl.1 rfl (lv_room (nbq rfl)) (qaa qlL 11 rfl) ⟨nbq rfl, nbq rfl⟩) hS (fun q _ h => hFc q h) hFc (fun r3 u t H1 locs ht hvm hw hB hz1 hk1 hS => ?_)
  obtain ⟨hP1, hK1, hD1⟩ := hB
  rw [ht] at hP1
  obtain ⟨hP, hD⟩ := qah (wr := (qyU a0 jch jcD jfB jk3 jch cyI jdE jfB jhp jhq jgi jgj jgk jgz jfR jgl jgO jc5 jfS jiB jk3 ji1 jiI jjb ji0 jj9 ji0 cyI jlg jjb cyI jlp ji1 cyI jkK jiI cyI jkj)) (w1 := []) (wn := (qyU a0 jch jcD jfB jk3 jch cyI jdE jfB jhp jhq jgi jgj jgk jgz jfR jgl jgO jc5 jfS jiB jk3 ji1 jiI jjb ji0 jj9 ji0 cyI jlg jjb cyI jlp ji1 cyI jkK jiI cyI jkj)) hP hD [] [0, 1, 2, 3, 4, 5, 6, 7] hCc rfl (by decide +kernel) (by decide +kernel) rfl hk1 hFc hP1 hD1
  generalize H1 = H at hP hS ⊢
  refine lv_istore_n (lv' := [(2, .int r3), (0, .ref a0), (1, .int p1)]) hx hb (qaa qlL 12 rfl) rfl hl (by decide) rfl (fun ls hl => ?_)
  refine lv_aload_n hx hb (qaa qlL 13 rfl) rfl (lv_at hl 1 rfl) ?_
  refine va_get (D := (dC, dI)) (ci := 1) (v := .ref jk3) (C := RX1) (T := TX1) (N := 4) hx hb hts qUk hown hK hP 0 rfl rfl 3 (by decide) (hts _ qO9) (fun _ h9 => h9) rfl (qaa qlL 14 rfl) ?_
  refine lv_aload_n hx hb (qaa qlL 15 rfl) rfl (lv_at hl 1 rfl) ?_
  refine lv_iload_n hx hb (qaa qkv 0 rfl) rfl (lv_at hl 2 rfl) ?_
  obtain ⟨hCc, hPc, hDc, hFc⟩ := qac (ws' := (qDB a0 jch jcD jfB jk3 jch cyI jdE)) hP hD hS hA [0, 1] (by decide +kernel) rfl
  refine va_calli (va_runV (As := [.int p1]) (rest := [.ref jk3]) ⟨hx, hb, hml, hown, hts⟩ (qsG l dC dI cyB cyI cyJ cyP a0 jch H.size (jcD) (.ref jfB) (.ref jk3) jdE p1 hw) (cwV 1 hts gX1_reach_X1_strong rfl rfl rfl (by decide +kernel) ⟨nbq rfl, nbq rfl⟩) ⟨qab, va_recv (q := (RX1, TX1, 4)) hK hPc (ci := 1) (q0 := 0) rfl rfl, qae hPc hK hDc hNw⟩ rfl rfl hl.1 rfl (lv_room (nbq rfl)) (qaa qkv 1 rfl) ⟨nbq rfl, nbq rfl⟩) hS (fun q _ h => hFc q h) hFc (fun r4 u t H1 locs ht hvm hw hB hz1 hk1 hS => ?_)
  obtain ⟨hP1, hK1, hD1⟩ := hB
  rw [ht] at hP1
  obtain ⟨hP, hD⟩ := qad (wr := (qaAd jfB jhp jhq jgi jgj jgk jgz jfR jgl jgO jc5 jfS jiB jk3 ji1 jiI jjb ji0 jj9 ji0 cyI jlg jjb cyI jlp ji1 cyI jkK jiI cyI jkj)) (w1 := (qDB a0 jch jcD jfB jk3 jch cyI jdE)) (wn := (qyU a0 jch jcD jfB jk3 jch cyI jdE jfB jhp jhq jgi jgj jgk jgz jfR jgl jgO jc5 jfS jiB jk3 ji1 jiI jjb ji0 jj9 ji0 cyI jlg jjb cyI jlp ji1 cyI jkK jiI cyI jkj)) hP hD [0, 1] [2, 3, 4, 5, 6, 7] [6, 7, 0, 1, 2, 3, 4, 5] hCc rfl (by decide +kernel) (by decide +kernel) (by decide +kernel) rfl hk1 hFc hP1 hD1
  generalize H1 = H at hP hS ⊢
  refine lv_aload_n hx hb (qaa qkv 2 rfl) rfl (lv_at hl 1 rfl) ?_
  refine lv_iload_n hx hb (qaa qkv 3 rfl) rfl (lv_at hl 2 rfl) ?_
  obtain ⟨hCc, hPc, hDc, hFc⟩ := qac (ws' := (qDB a0 jch jcD jfB jk3 jch cyI jdE)) hP hD hS hA [0, 1] (by decide +kernel) rfl
  refine va_calli (va_runV (As := [.int p1]) (rest := [.int r4, .ref jk3]) ⟨hx, hb, hml, hown, hts⟩ (qacv l dC dI cyB cyI cyJ cyP a0 jch H.size (jcD) (.ref jfB) (.ref jk3) jdE p1 hw) (cwV 1 hts gX1_reach_X1_still rfl rfl rfl (by decide +kernel) ⟨nbq rfl, nbq rfl⟩) ⟨qab, va_recv (q := (RX1, TX1, 4)) hK hPc (ci := 1) (q0 := 0) rfl rfl, qae hPc hK hDc hNw⟩ rfl rfl hl.1 rfl (lv_room (nbq rfl)) (qaa qkv 4 rfl) ⟨nbq rfl, nbq rfl⟩) hS (fun q _ h => hFc q h) hFc (fun r5 u t H1 locs ht hvm hw hB hz1 hk1 hS => ?_)
  obtain ⟨hP1, hK1, hD1⟩ := hB
  rw [ht] at hP1
  obtain ⟨hP, hD⟩ := qad (wr := (qaAd jfB jhp jhq jgi jgj jgk jgz jfR jgl jgO jc5 jfS jiB jk3 ji1 jiI jjb ji0 jj9 ji0 cyI jlg jjb cyI jlp ji1 cyI jkK jiI cyI jkj)) (w1 := (qDB a0 jch jcD jfB jk3 jch cyI jdE)) (wn := (qyU a0 jch jcD jfB jk3 jch cyI jdE jfB jhp jhq jgi jgj jgk jgz jfR jgl jgO jc5 jfS jiB jk3 ji1 jiI jjb ji0 jj9 ji0 cyI jlg jjb cyI jlp ji1 cyI jkK jiI cyI jkj)) hP hD [0, 1] [2, 3, 4, 5, 6, 7] [6, 7, 0, 1, 2, 3, 4, 5] hCc rfl (by decide +kernel) (by decide +kernel) (by decide +kernel) rfl hk1 hFc hP1 hD1
  generalize H1 = H at hP hS ⊢
  refine lv_aload_n hx hb (qaa qkv 5 rfl) rfl (lv_at hl 1 rfl) ?_
  refine lv_iload_n hx hb (qaa qkv 6 rfl) rfl (lv_at hl 2 rfl) ?_
  obtain ⟨hCc, hPc, hDc, hFc⟩ := qac (ws' := (qakS a0 jch jcD jfB jk3 jfB jhp jhq jgi jgj jgk jgz jfR jgl jgO jc5 jfS jiB jch cyI jdE)) hP hD hS hA [0, 2, 1] (by decide +kernel) rfl
  refine va_calli (va_runV (As := [.int p1]) (rest := [.int r5, .int r4, .ref jk3]) ⟨hx, hb, hml, hown, hts⟩ (qajG l dC dI cyB cyI cyJ cyP a0 jfB jch H.size (jcD) (.ref jk3) (jhp) (jhq) (jgi) (jgj) (jgk) (jgz) (jfR) (jgl) (jgO) (jfS) (jiB) jc5 jdE p1 hw) (cwV 1 hts gX1_reach_X1_owes rfl rfl rfl (by decide +kernel) ⟨nbq rfl, nbq rfl⟩) ⟨qab, va_recv (q := (RX1, TX1, 4)) hK hPc (ci := 1) (q0 := 0) rfl rfl, qae hPc hK hDc hNw⟩ rfl rfl hl.1 rfl (lv_room (nbq rfl)) (qaa qkv 7 rfl) ⟨nbq rfl, nbq rfl⟩) hS (fun q _ h => hFc q h) hFc (fun r6 u t H1 locs ht hvm hw hB hz1 hk1 hS => ?_)
  obtain ⟨hP1, hK1, hD1⟩ := hB
  rw [ht] at hP1
  obtain ⟨hP, hD⟩ := qad (wr := (qaXH jk3 ji1 jiI jjb ji0 jj9 ji0 cyI jlg jjb cyI jlp ji1 cyI jkK jiI cyI jkj)) (w1 := (qakS a0 jch jcD jfB jk3 jfB jhp jhq jgi jgj jgk jgz jfR jgl jgO jc5 jfS jiB jch cyI jdE)) (wn := (qyU a0 jch jcD jfB jk3 jch cyI jdE jfB jhp jhq jgi jgj jgk jgz jfR jgl jgO jc5 jfS jiB jk3 ji1 jiI jjb ji0 jj9 ji0 cyI jlg jjb cyI jlp ji1 cyI jkK jiI cyI jkj)) hP hD [0, 2, 1] [3, 4, 5, 6, 7] [5, 7, 6, 0, 1, 2, 3, 4] hCc rfl (by decide +kernel) (by decide +kernel) (by decide +kernel) rfl hk1 hFc hP1 hD1
  generalize H1 = H at hP hS ⊢
  refine lv_aload_n hx hb (qaa qkv 8 rfl) rfl (lv_at hl 1 rfl) ?_
  refine lv_iload_n hx hb (qaa qkv 9 rfl) rfl (lv_at hl 2 rfl) ?_
  obtain ⟨hCc, hPc, hDc, hFc⟩ := qac (ws' := (qakS a0 jch jcD jfB jk3 jfB jhp jhq jgi jgj jgk jgz jfR jgl jgO jc5 jfS jiB jch cyI jdE)) hP hD hS hA [0, 2, 1] (by decide +kernel) rfl
  refine va_calli (va_runV (As := [.int p1]) (rest := [.int r6, .int r5, .int r4, .ref jk3]) ⟨hx, hb, hml, hown, hts⟩ (qai9 l dC dI cyB cyI cyJ cyP a0 jfB jch H.size (jcD) (.ref jk3) (jhp) (jhq) (jgi) (jgj) (jgk) (jgz) (jfR) (jgl) (jgO) (jfS) (jiB) jc5 jdE p1 hw) (cwV 1 hts gX1_reach_X1_owed rfl rfl rfl (by decide +kernel) ⟨nbq rfl, nbq rfl⟩) ⟨qab, va_recv (q := (RX1, TX1, 4)) hK hPc (ci := 1) (q0 := 0) rfl rfl, qae hPc hK hDc hNw⟩ rfl rfl hl.1 rfl (lv_room (nbq rfl)) (qaa qkv 10 rfl) ⟨nbq rfl, nbq rfl⟩) hS (fun q _ h => hFc q h) hFc (fun r7 u t H1 locs ht hvm hw hB hz1 hk1 hS => ?_)
  obtain ⟨hP1, hK1, hD1⟩ := hB
  rw [ht] at hP1
  obtain ⟨hP, hD⟩ := qad (wr := (qaXH jk3 ji1 jiI jjb ji0 jj9 ji0 cyI jlg jjb cyI jlp ji1 cyI jkK jiI cyI jkj)) (w1 := (qakS a0 jch jcD jfB jk3 jfB jhp jhq jgi jgj jgk jgz jfR jgl jgO jc5 jfS jiB jch cyI jdE)) (wn := (qyU a0 jch jcD jfB jk3 jch cyI jdE jfB jhp jhq jgi jgj jgk jgz jfR jgl jgO jc5 jfS jiB jk3 ji1 jiI jjb ji0 jj9 ji0 cyI jlg jjb cyI jlp ji1 cyI jkK jiI cyI jkj)) hP hD [0, 2, 1] [3, 4, 5, 6, 7] [5, 7, 6, 0, 1, 2, 3, 4] hCc rfl (by decide +kernel) (by decide +kernel) (by decide +kernel) rfl hk1 hFc hP1 hD1
  generalize H1 = H at hP hS ⊢
  refine lv_iload_n hx hb (qaa qkv 11 rfl) rfl (lv_at hl 0 rfl) ?_
  obtain ⟨hCc, hPc, hDc, hFc⟩ := qac (ws' := (qaRm jk3 ji1 jiI jjb ji0 jj9 ji0 cyI jlg)) hP hD hS hA [3, 4] (by decide +kernel) rfl
  refine va_callv (va_runV (As := [.int r4, .int r5, .int r6, .int r7, .int r3]) (rest := []) ⟨hx, hb, hml, hown, hts⟩ (q7l l dC dI cyB cyI cyJ cyP jk3 ji0 H.size (.ref ji1) (.ref jiI) (.ref jjb) (.int jj9) jlg r4 r5 r6 r7 r3 hw) (cwV 5 hts gX1_reach_X4_setFacts rfl rfl rfl (by decide +kernel) ⟨nbq rfl, nbq rfl⟩) ⟨qab, va_recv (q := (RX4, TX4, 5)) hK hPc (ci := 4) (q0 := 0) rfl rfl, qae hPc hK hDc hNw⟩ rfl rfl hl.1 rfl (lv_room (nbq rfl)) (qaa qkv 12 rfl) ⟨nbq rfl, nbq rfl⟩) hS (fun q _ h => hFc q h) hFc (fun u t H1 locs ht hvm hw hB hz1 hk1 hS => ?_)
  obtain ⟨f8, rfl⟩ : ∃ z, z = u := ⟨_, rfl⟩
  obtain ⟨hP1, hK1, hD1⟩ := hB
  rw [ht] at hP1
  obtain ⟨hP, hD⟩ := qad (wr := (qa5V a0 jch jcD jfB jk3 jch cyI jdE jfB jhp jhq jgi jgj jgk jgz jfR jgl jgO jc5 jfS jiB jjb cyI jlp ji1 cyI jkK jiI cyI jkj)) (w1 := (qaRm jk3 ji1 jiI jjb ji0 jj9 ji0 cyI f8)) (wn := (qyU a0 jch jcD jfB jk3 jch cyI jdE jfB jhp jhq jgi jgj jgk jgz jfR jgl jgO jc5 jfS jiB jk3 ji1 jiI jjb ji0 jj9 ji0 cyI f8 jjb cyI jlp ji1 cyI jkK jiI cyI jkj)) hP hD [3, 4] [0, 1, 2, 5, 6, 7] [0, 1, 2, 6, 7, 3, 4, 5] hCc rfl (by decide +kernel) (by decide +kernel) (by decide +kernel) rfl hk1 hFc hP1 hD1
  generalize H1 = H at hP hS ⊢
  refine lv_aload_n hx hb (qaa qkv 13 rfl) rfl (lv_at hl 1 rfl) ?_
  refine va_get (D := (dC, dI)) (ci := 1) (v := .ref jk3) (C := RX1) (T := TX1) (N := 4) hx hb hts qUk hown hK hP 0 rfl rfl 3 (by decide) (hts _ qO9) (fun _ h9 => h9) rfl (qaa qkv 14 rfl) ?_
  refine lv_aload_n hx hb (qaa qkv 15 rfl) rfl (lv_at hl 1 rfl) ?_
  obtain ⟨hCc, hPc, hDc, hFc⟩ := qac (ws' := (qDB a0 jch jcD jfB jk3 jch cyI jdE)) hP hD hS hA [0, 1] (by decide +kernel) rfl
  refine va_calli (va_runV (As := []) (rest := [.ref jk3]) ⟨hx, hb, hml, hown, hts⟩ (qag5 l dC dI cyB cyI cyJ cyP a0 jch H.size (jcD) (.ref jfB) (.ref jk3) jdE hw) (cwV 0 hts gX1_reach_X1_day rfl rfl rfl (by decide +kernel) ⟨nbq rfl, nbq rfl⟩) ⟨qab, va_recv (q := (RX1, TX1, 4)) hK hPc (ci := 1) (q0 := 0) rfl rfl, qae hPc hK hDc hNw⟩ rfl rfl hl.1 rfl (lv_room (nbq rfl)) (qaa qrJ 0 rfl) ⟨nbq rfl, nbq rfl⟩) hS (fun q _ h => hFc q h) hFc (fun r9 u t H1 locs ht hvm hw hB hz1 hk1 hS => ?_)
  obtain ⟨hP1, hK1, hD1⟩ := hB
  rw [ht] at hP1
  obtain ⟨hP, hD⟩ := qad (wr := (qaAd jfB jhp jhq jgi jgj jgk jgz jfR jgl jgO jc5 jfS jiB jk3 ji1 jiI jjb ji0 jj9 ji0 cyI f8 jjb cyI jlp ji1 cyI jkK jiI cyI jkj)) (w1 := (qDB a0 jch jcD jfB jk3 jch cyI jdE)) (wn := (qyU a0 jch jcD jfB jk3 jch cyI jdE jfB jhp jhq jgi jgj jgk jgz jfR jgl jgO jc5 jfS jiB jk3 ji1 jiI jjb ji0 jj9 ji0 cyI f8 jjb cyI jlp ji1 cyI jkK jiI cyI jkj)) hP hD [0, 1] [2, 3, 4, 5, 6, 7] [6, 7, 0, 1, 2, 3, 4, 5] hCc rfl (by decide +kernel) (by decide +kernel) (by decide +kernel) rfl hk1 hFc hP1 hD1
  generalize H1 = H at hP hS ⊢
  refine lv_iload_n hx hb (qaa qrJ 1 rfl) rfl (lv_at hl 2 rfl) ?_
  refine lv_aload_n hx hb (qaa qrJ 2 rfl) rfl (lv_at hl 1 rfl) ?_
  refine lv_iload_n hx hb (qaa qrJ 3 rfl) rfl (lv_at hl 2 rfl) ?_
  obtain ⟨hCc, hPc, hDc, hFc⟩ := qac (ws' := (qDB a0 jch jcD jfB jk3 jch cyI jdE)) hP hD hS hA [0, 1] (by decide +kernel) rfl
  refine va_calli (va_runV (As := [.int p1]) (rest := [.int p1, .int r9, .ref jk3]) ⟨hx, hb, hml, hown, hts⟩ (qav0 l dC dI cyB cyI cyJ cyP a0 jch H.size (jcD) (.ref jfB) (.ref jk3) jdE p1 hw) (cwV 1 hts gX1_reach_X1_leaps rfl rfl rfl (by decide +kernel) ⟨nbq rfl, nbq rfl⟩) ⟨qab, va_recv (q := (RX1, TX1, 4)) hK hPc (ci := 1) (q0 := 0) rfl rfl, qae hPc hK hDc hNw⟩ rfl rfl hl.1 rfl (lv_room (nbq rfl)) (qaa qrJ 4 rfl) ⟨nbq rfl, nbq rfl⟩) hS (fun q _ h => hFc q h) hFc (fun r10 u t H1 locs ht hvm hw hB hz1 hk1 hS => ?_)
  obtain ⟨hP1, hK1, hD1⟩ := hB
  rw [ht] at hP1
  obtain ⟨hP, hD⟩ := qad (wr := (qaAd jfB jhp jhq jgi jgj jgk jgz jfR jgl jgO jc5 jfS jiB jk3 ji1 jiI jjb ji0 jj9 ji0 cyI f8 jjb cyI jlp ji1 cyI jkK jiI cyI jkj)) (w1 := (qDB a0 jch jcD jfB jk3 jch cyI jdE)) (wn := (qyU a0 jch jcD jfB jk3 jch cyI jdE jfB jhp jhq jgi jgj jgk jgz jfR jgl jgO jc5 jfS jiB jk3 ji1 jiI jjb ji0 jj9 ji0 cyI f8 jjb cyI jlp ji1 cyI jkK jiI cyI jkj)) hP hD [0, 1] [2, 3, 4, 5, 6, 7] [6, 7, 0, 1, 2, 3, 4, 5] hCc rfl (by decide +kernel) (by decide +kernel) (by decide +kernel) rfl hk1 hFc hP1 hD1
  generalize H1 = H at hP hS ⊢
  obtain ⟨hCc, hPc, hDc, hFc⟩ := qac (ws' := (qaRm jk3 ji1 jiI jjb ji0 jj9 ji0 cyI f8)) hP hD hS hA [3, 4] (by decide +kernel) rfl
  refine va_callv (va_runV (As := [.int r9, .int p1, .int r10]) (rest := []) ⟨hx, hb, hml, hown, hts⟩ (q7v l dC dI cyB cyI cyJ cyP jk3 ji0 H.size (.ref ji1) (.ref jiI) (.ref jjb) (.int jj9) f8 r9 p1 r10 hw) (cwV 3 hts gX1_reach_X4_setTimes rfl rfl rfl (by decide +kernel) ⟨nbq rfl, nbq rfl⟩) ⟨qab, va_recv (q := (RX4, TX4, 5)) hK hPc (ci := 4) (q0 := 0) rfl rfl, qae hPc hK hDc hNw⟩ rfl rfl hl.1 rfl (lv_room (nbq rfl)) (qaa qrJ 5 rfl) ⟨nbq rfl, nbq rfl⟩) hS (fun q _ h => hFc q h) hFc (fun u t H1 locs ht hvm hw hB hz1 hk1 hS => ?_)
  obtain ⟨f11, rfl⟩ : ∃ z, z = u := ⟨_, rfl⟩
  obtain ⟨hP1, hK1, hD1⟩ := hB
  rw [ht] at hP1
  obtain ⟨hP, hD⟩ := qad (wr := (qa5V a0 jch jcD jfB jk3 jch cyI jdE jfB jhp jhq jgi jgj jgk jgz jfR jgl jgO jc5 jfS jiB jjb cyI jlp ji1 cyI jkK jiI cyI jkj)) (w1 := (qaRm jk3 ji1 jiI jjb ji0 jj9 ji0 cyI f11)) (wn := (qyU a0 jch jcD jfB jk3 jch cyI jdE jfB jhp jhq jgi jgj jgk jgz jfR jgl jgO jc5 jfS jiB jk3 ji1 jiI jjb ji0 jj9 ji0 cyI f11 jjb cyI jlp ji1 cyI jkK jiI cyI jkj)) hP hD [3, 4] [0, 1, 2, 5, 6, 7] [0, 1, 2, 6, 7, 3, 4, 5] hCc rfl (by decide +kernel) (by decide +kernel) (by decide +kernel) rfl hk1 hFc hP1 hD1
  generalize H1 = H at hP hS ⊢
  refine lv_aload_n hx hb (qaa qrJ 6 rfl) rfl (lv_at hl 1 rfl) ?_
  refine va_get (D := (dC, dI)) (ci := 1) (v := .ref jk3) (C := RX1) (T := TX1) (N := 4) hx hb hts qUk hown hK hP 0 rfl rfl 3 (by decide) (hts _ qO9) (fun _ h9 => h9) rfl (qaa qrJ 7 rfl) ?_
  obtain ⟨hCc, hPc, hDc, hFc⟩ := qac (ws' := (qnx jk3 ji1 jiI jjb ji0 jj9 jjb cyI jlp ji1 cyI jkK jiI cyI jkj ji0 cyI f11)) hP hD hS hA [3, 5, 6, 7, 4] (by decide +kernel) rfl
  refine va_calli (va_runV (As := []) (rest := []) ⟨hx, hb, hml, hown, hts⟩ (qaxv l dC dI cyB cyI cyJ cyP jk3 jjb ji1 ji0 jiI H.size jj9 jkK jkj f11 jlp hw) (cwV 0 hts gX1_reach_X4_reach rfl rfl rfl (by decide +kernel) ⟨nbq rfl, nbq rfl⟩) ⟨qab, va_recv (q := (RX4, TX4, 5)) hK hPc (ci := 4) (q0 := 0) rfl rfl, qae hPc hK hDc hNw⟩ rfl rfl hl.1 rfl (lv_room (nbq rfl)) (qaa qrJ 8 rfl) ⟨nbq rfl, nbq rfl⟩) hS (fun q _ h => hFc q h) hFc (fun r13 u t H1 locs ht hvm hw hB hz1 hk1 hS => ?_)
  obtain ⟨f12, rfl⟩ : ∃ z, z = u := ⟨_, rfl⟩
  obtain ⟨hP1, hK1, hD1⟩ := hB
  rw [ht] at hP1
  obtain ⟨hP, hD⟩ := qad (wr := [(a0, .inr (1, [.ref jch, jcD, .ref jfB, .ref jk3])), (jch, .inl (cyI, 64, .inl jdE)), (jfB, .inr (2, [jhp, jhq, jgi, jgj, jgk, jgz, jfR, jgl, jgO, .int jc5, jfS, jiB]))]) (w1 := (qnx jk3 ji1 jiI jjb ji0 jj9 jjb cyI f12 ji1 cyI jkK jiI cyI jkj ji0 cyI f11)) (wn := (qyU a0 jch jcD jfB jk3 jch cyI jdE jfB jhp jhq jgi jgj jgk jgz jfR jgl jgO jc5 jfS jiB jk3 ji1 jiI jjb ji0 jj9 ji0 cyI f11 jjb cyI f12 ji1 cyI jkK jiI cyI jkj)) hP hD [3, 5, 6, 7, 4] [0, 1, 2] [0, 1, 2, 3, 7, 4, 5, 6] hCc rfl (by decide +kernel) (by decide +kernel) (by decide +kernel) rfl hk1 hFc hP1 hD1
  generalize H1 = H at hP hS ⊢
  exact ((W.iret (v := r13) hx hb hr (fun t ht hW => ⟨⟨r13, (f11, f12), rfl, hw, by rw [ht]; exact hP, va_K.moved hW.alike hK, hD⟩, hS.F ht⟩) hS.2.2 (qaa qrJ 9 rfl)))
theorem qad2 : ∀ w ∈ u_ws RX1 TX1 4, w ∈ wsX1_couldLeap := uiM qrO qV8 (by decide +kernel)
theorem qaaA : (.fieldLink RX1 24 "MarchHares$Days" "down" "LMarchHares$Down;" : Cond) ∈ wsX1_couldLeap := qrO 322 (by decide +kernel)
set_option maxHeartbeats 4000000 in
set_option maxRecDepth 100000 in
theorem qQy (l : Launch) (dC : Nat → ClassId) (dI : Nat → Nat → Nat) (cyB cyI cyJ cyP : ClassId) (a0 jch jfB jjJ jjK jk3 ji0 jjb ji1 jiI sz : Nat) (jcD jgi jgj jgk jgz jfR jgl jgO jfS jiB : Value) (jdE : NI) (jc5 : Int32) (jlh jli : NI) (jj9 : Int32) (jkK jkj jlg jlp : NI) (p1 p2 : Int32) {Q : Int32 → NI → NI → Prop} (hw : qyi jdE jc5 jlh jli jj9 jkK jkj jlg jlp p1 p2 Q) : Met l yX1_couldLeap wsX1_couldLeap ({ frames := 3, cells := 0, slots := 0, locals := 77 }) (va_Pc [.ref a0, .int p1, .int p2] (cPc (dC, dI) (kT cyB cyI cyJ cyP) (qMt a0 jch jcD jfB jk3 jch cyI jdE jfB jjJ jjK jgi jgj jgk jgz jfR jgl jgO jc5 jfS jiB jjJ cyI jlh jjK cyI jli jk3 ji1 jiI jjb ji0 jj9 ji0 cyI jlg jjb cyI jlp ji1 cyI jkK jiI cyI jkj) sz)) (va_Qi (fun (r : Int32) (u : NI × NI) => Q r u.1 u.2) (cB (dC, dI) (kT cyB cyI cyJ cyP) (va_A (qMt a0 jch jcD jfB jk3 jch cyI jdE jfB jjJ jjK jgi jgj jgk jgz jfR jgl jgO jc5 jfS jiB jjJ cyI jlh jjK cyI jli jk3 ji1 jiI jjb ji0 jj9 ji0 cyI jlg jjb cyI jlp ji1 cyI jkK jiI cyI jkj) sz) (fun u : NI × NI => ((qMt a0 jch jcD jfB jk3 jch cyI jdE jfB jjJ jjK jgi jgj jgk jgz jfR jgl jgO jc5 jfS jiB jjJ cyI jlh jjK cyI jli jk3 ji1 jiI jjb ji0 jj9 ji0 cyI u.1 jjb cyI u.2 ji1 cyI jkK jiI cyI jkj) : va_W))) (va_A (qMt a0 jch jcD jfB jk3 jch cyI jdE jfB jjJ jjK jgi jgj jgk jgz jfR jgl jgO jc5 jfS jiB jjJ cyI jlh jjK cyI jli jk3 ji1 jiI jjb ji0 jj9 ji0 cyI jlg jjb cyI jlp ji1 cyI jkK jiI cyI jkj) sz)) 0 0 (va_A (qMt a0 jch jcD jfB jk3 jch cyI jdE jfB jjJ jjK jgi jgj jgk jgz jfR jgl jgO jc5 jfS jiB jjJ cyI jlh jjK cyI jli jk3 ji1 jiI jjb ji0 jj9 ji0 cyI jlg jjb cyI jlp ji1 cyI jkK jiI cyI jkj) sz) := by
  refine Met.ofW (cc := cX1_couldLeap) (maxL := 3) (ret := (some .boolean)) (by decide) rfl ?_
  intro p e s m args below meth c s₁ B hml hv
  obtain ⟨rfl, hsz, hP, hK, hD0, hNw⟩ := hv
  have hx := B.exec
  have hb := B.bytes
  have hr := B.returns
  have hts := atoms_spec (ws := wsX1_couldLeap) B.pre
  have hown : s.vm.findClass RX1 = some m.cls := findClass_of_methodNamed B.named
  have hlocks := B.notSynchronized
  subst hsz
  have hD := hD0.self (sz := s.heap.size)
  generalize hAe : va_A (qMt a0 jch jcD jfB jk3 jch cyI jdE jfB jjJ jjK jgi jgj jgk jgz jfR jgl jgO jc5 jfS jiB jjJ cyI jlh jjK cyI jli jk3 ji1 jiI jjb ji0 jj9 ji0 cyI jlg jjb cyI jlp ji1 cyI jkK jiI cyI jkj) s.heap.size = A at hD ⊢
  have hA : ∀ q : Nat, s.heap.size ≤ q → A q := fun q h => by rw [← hAe]; exact Or.inr h
  have hS : va_S A s.heap s.heap [] := va_S.rf
  have hP : va_P (dC, dI) vwCl (qMt a0 jch jcD jfB jk3 jch cyI jdE jfB jjJ jjK jgi jgj jgk jgz jfR jgl jgO jc5 jfS jiB jjJ cyI jlh jjK cyI jli jk3 ji1 jiI jjb ji0 jj9 ji0 cyI jlg jjb cyI jlp ji1 cyI jkK jiI cyI jkj) s.heap := hP
  have hl := lv_entry ([.ref a0, .int p1, .int p2]) (n := 3) (nbq rfl)
  rw [lg_entry_eq]
  generalize (lg_sl ([.ref a0, .int p1, .int p2]) ++ List.replicate (3 - (lg_sl ([.ref a0, .int p1, .int p2])).length) Slot.unset).toArray = ls at hl ⊢
  have hl : lv_has ls 3 [(0, .ref a0), (1, .int p1), (2, .int p2)] := hl
  have C0 : cfx p s m _ meth c cX1_couldLeap (some .boolean) wsX1_couldLeap RX1 3 A (dC, dI) (kT cyB cyI cyJ cyP) := ⟨hx, hb, hr, hts, hown, hlocks, hml, hA, hK, hNw⟩
  clear hAe
  obtain ⟨H, hH⟩ : ∃ H, H = s.heap := ⟨_, rfl⟩
  rw [← hH] at hP ⊢
  have hS : va_S A s.heap H [] := by rw [hH]; exact va_S.rf
  have hS := hS
  refine lv_aload_n hx hb (qaa qeD 0 rfl) rfl (lv_at hl 0 rfl) ?_
  refine lv_iload_n hx hb (qaa qeD 1 rfl) rfl (lv_at hl 1 rfl) ?_
  obtain ⟨hCc, hPc, hDc, hFc⟩ := qac (ws' := (qDB a0 jch jcD jfB jk3 jch cyI jdE)) hP hD hS hA [0, 1] (by decide +kernel) rfl
  refine va_calli (va_runV (As := [.int p1]) (rest := []) ⟨hx, hb, hml, hown, hts⟩ (qh8 l dC dI cyB cyI cyJ cyP a0 jch H.size (jcD) (.ref jfB) (.ref jk3) jdE p1 hw) (cwV 1 hts gX1_couldLeap_X1_isCaught rfl rfl rfl (by decide +kernel) ⟨nbq rfl, nbq rfl⟩) ⟨qab, va_recv (q := (RX1, TX1, 4)) hK hPc (ci := 1) (q0 := 0) rfl rfl, qae hPc hK hDc hNw⟩ rfl rfl hl.1 rfl (lv_room (nbq rfl)) (qaa qeD 2 rfl) ⟨nbq rfl, nbq rfl⟩) hS (fun q _ h => hFc q h) hFc (fun r1 u t H1 locs ht hvm hw hB hz1 hk1 hS => ?_)
  obtain ⟨hP1, hK1, hD1⟩ := hB
  rw [ht] at hP1
  obtain ⟨hP, hD⟩ := qad (wr := (qaYx jfB jjJ jjK jgi jgj jgk jgz jfR jgl jgO jc5 jfS jiB jjJ cyI jlh jjK cyI jli jk3 ji1 jiI jjb ji0 jj9 ji0 cyI jlg jjb cyI jlp ji1 cyI jkK jiI cyI jkj)) (w1 := (qDB a0 jch jcD jfB jk3 jch cyI jdE)) (wn := (qMt a0 jch jcD jfB jk3 jch cyI jdE jfB jjJ jjK jgi jgj jgk jgz jfR jgl jgO jc5 jfS jiB jjJ cyI jlh jjK cyI jli jk3 ji1 jiI jjb ji0 jj9 ji0 cyI jlg jjb cyI jlp ji1 cyI jkK jiI cyI jkj)) hP hD [0, 1] [2, 3, 4, 5, 6, 7, 8, 9] [8, 9, 0, 1, 2, 3, 4, 5, 6, 7] hCc rfl (by decide +kernel) (by decide +kernel) (by decide +kernel) rfl hk1 hFc hP1 hD1
  generalize H1 = H at hP hS ⊢
  refine lv_if_ne (tgt := 42) hx hb (qaa qeD 3 rfl) (by decide) (fun c2 => ?_) (fun c2 => ?_)
  · have hw := hw.1 c2
    refine lv_iconst (v := 0) hx hb (qaa qgj 6 rfl) (by decide) ?_
    exact ((W.zret (v := 0) hx hb hr rfl (fun t ht hW => ⟨⟨0, (jlg, jlp), rfl, hw, by rw [ht]; exact hP, va_K.moved hW.alike hK, hD⟩, hS.F ht⟩) hS.2.2 (qaa qgj 7 rfl)))
  · have hw := hw.2 c2
    refine lv_aload_n hx hb (qaa qeD 4 rfl) rfl (lv_at hl 0 rfl) ?_
    refine lv_iload_n hx hb (qaa qeD 5 rfl) rfl (lv_at hl 1 rfl) ?_
    obtain ⟨hCc, hPc, hDc, hFc⟩ := qac (ws' := (qDB a0 jch jcD jfB jk3 jch cyI jdE)) hP hD hS hA [0, 1] (by decide +kernel) rfl
    refine va_calli (va_runV (As := [.int p1]) (rest := []) ⟨hx, hb, hml, hown, hts⟩ (qvC l dC dI cyB cyI cyJ cyP a0 jch H.size (jcD) (.ref jfB) (.ref jk3) jdE p1 hw) (cwV 1 hts gX1_couldLeap_X1_sits rfl rfl rfl (by decide +kernel) ⟨nbq rfl, nbq rfl⟩) ⟨qab, va_recv (q := (RX1, TX1, 4)) hK hPc (ci := 1) (q0 := 0) rfl rfl, qae hPc hK hDc hNw⟩ rfl rfl hl.1 rfl (lv_room (nbq rfl)) (qaa qeD 6 rfl) ⟨nbq rfl, nbq rfl⟩) hS (fun q _ h => hFc q h) hFc (fun r3 u t H1 locs ht hvm hw hB hz1 hk1 hS => ?_)
    obtain ⟨hP1, hK1, hD1⟩ := hB
    rw [ht] at hP1
    obtain ⟨hP, hD⟩ := qad (wr := (qaYx jfB jjJ jjK jgi jgj jgk jgz jfR jgl jgO jc5 jfS jiB jjJ cyI jlh jjK cyI jli jk3 ji1 jiI jjb ji0 jj9 ji0 cyI jlg jjb cyI jlp ji1 cyI jkK jiI cyI jkj)) (w1 := (qDB a0 jch jcD jfB jk3 jch cyI jdE)) (wn := (qMt a0 jch jcD jfB jk3 jch cyI jdE jfB jjJ jjK jgi jgj jgk jgz jfR jgl jgO jc5 jfS jiB jjJ cyI jlh jjK cyI jli jk3 ji1 jiI jjb ji0 jj9 ji0 cyI jlg jjb cyI jlp ji1 cyI jkK jiI cyI jkj)) hP hD [0, 1] [2, 3, 4, 5, 6, 7, 8, 9] [8, 9, 0, 1, 2, 3, 4, 5, 6, 7] hCc rfl (by decide +kernel) (by decide +kernel) (by decide +kernel) rfl hk1 hFc hP1 hD1
    generalize H1 = H at hP hS ⊢
    refine lv_iload_n hx hb (qaa qeD 7 rfl) rfl (lv_at hl 2 rfl) ?_
    refine lv_icmp_eq (tgt := 42) hx hb (qaa qeD 8 rfl) (by decide) (fun c4 => ?_) (fun c4 => ?_)
    · have hw := hw.1 c4
      refine lv_iconst (v := 0) hx hb (qaa qgj 6 rfl) (by decide) ?_
      exact ((W.zret (v := 0) hx hb hr rfl (fun t ht hW => ⟨⟨0, (jlg, jlp), rfl, hw, by rw [ht]; exact hP, va_K.moved hW.alike hK, hD⟩, hS.F ht⟩) hS.2.2 (qaa qgj 7 rfl)))
    · have hw := hw.2 c4
      refine lv_aload_n hx hb (qaa qeD 9 rfl) rfl (lv_at hl 0 rfl) ?_
      refine va_get (D := (dC, dI)) (ci := 1) (v := .ref jfB) (C := RX1) (T := TX1) (N := 4) hx hb hts qad2 hown hK hP 0 rfl rfl 2 (by decide) (hts _ qaaA) (fun _ h9 => h9) rfl (qaa qeD 10 rfl) ?_
      refine lv_aload_n hx hb (qaa qeD 11 rfl) rfl (lv_at hl 0 rfl) ?_
      refine lv_iload_n hx hb (qaa qeD 12 rfl) rfl (lv_at hl 1 rfl) ?_
      obtain ⟨hCc, hPc, hDc, hFc⟩ := qac (ws' := (qDB a0 jch jcD jfB jk3 jch cyI jdE)) hP hD hS hA [0, 1] (by decide +kernel) rfl
      refine va_calli (va_runV (As := [.int p1]) (rest := [.ref jfB]) ⟨hx, hb, hml, hown, hts⟩ (qvC l dC dI cyB cyI cyJ cyP a0 jch H.size (jcD) (.ref jfB) (.ref jk3) jdE p1 hw) (cwV 1 hts gX1_couldLeap_X1_sits rfl rfl rfl (by decide +kernel) ⟨nbq rfl, nbq rfl⟩) ⟨qab, va_recv (q := (RX1, TX1, 4)) hK hPc (ci := 1) (q0 := 0) rfl rfl, qae hPc hK hDc hNw⟩ rfl rfl hl.1 rfl (lv_room (nbq rfl)) (qaa qeD 13 rfl) ⟨nbq rfl, nbq rfl⟩) hS (fun q _ h => hFc q h) hFc (fun r5 u t H1 locs ht hvm hw hB hz1 hk1 hS => ?_)
      obtain ⟨hP1, hK1, hD1⟩ := hB
      rw [ht] at hP1
      obtain ⟨hP, hD⟩ := qad (wr := (qaYx jfB jjJ jjK jgi jgj jgk jgz jfR jgl jgO jc5 jfS jiB jjJ cyI jlh jjK cyI jli jk3 ji1 jiI jjb ji0 jj9 ji0 cyI jlg jjb cyI jlp ji1 cyI jkK jiI cyI jkj)) (w1 := (qDB a0 jch jcD jfB jk3 jch cyI jdE)) (wn := (qMt a0 jch jcD jfB jk3 jch cyI jdE jfB jjJ jjK jgi jgj jgk jgz jfR jgl jgO jc5 jfS jiB jjJ cyI jlh jjK cyI jli jk3 ji1 jiI jjb ji0 jj9 ji0 cyI jlg jjb cyI jlp ji1 cyI jkK jiI cyI jkj)) hP hD [0, 1] [2, 3, 4, 5, 6, 7, 8, 9] [8, 9, 0, 1, 2, 3, 4, 5, 6, 7] hCc rfl (by decide +kernel) (by decide +kernel) (by decide +kernel) rfl hk1 hFc hP1 hD1
      generalize H1 = H at hP hS ⊢
      refine lv_iload_n hx hb (qaa qeD 14 rfl) rfl (lv_at hl 2 rfl) ?_
      obtain ⟨hCc, hPc, hDc, hFc⟩ := qac (ws' := (qa5j jfB jjJ jjK jgi jgj jgk jgz jfR jgl jgO jc5 jfS jiB jjJ cyI jlh jjK cyI jli)) hP hD hS hA [2, 3, 4] (by decide +kernel) rfl
      refine va_calli (va_runV (As := [.int r5, .int p2]) (rest := []) ⟨hx, hb, hml, hown, hts⟩ (qCj l dC dI cyB cyI cyJ cyP jfB jjJ jjK H.size (jgi) (jgj) (jgk) (jgz) (jfR) (jgl) (jgO) (.int jc5) (jfS) (jiB) jlh jli r5 p2 hw) (cwV 2 hts gX1_couldLeap_X2_apart rfl rfl rfl (by decide +kernel) ⟨nbq rfl, nbq rfl⟩) ⟨qab, va_recv (q := (RX2, TX2, 12)) hK hPc (ci := 2) (q0 := 0) rfl rfl, qae hPc hK hDc hNw⟩ rfl rfl hl.1 rfl (lv_room (nbq rfl)) (qaa qeD 15 rfl) ⟨nbq rfl, nbq rfl⟩) hS (fun q _ h => hFc q h) hFc (fun r6 u t H1 locs ht hvm hw hB hz1 hk1 hS => ?_)
      obtain ⟨hP1, hK1, hD1⟩ := hB
      rw [ht] at hP1
      obtain ⟨hP, hD⟩ := qad (wr := [(a0, .inr (1, [.ref jch, jcD, .ref jfB, .ref jk3])), (jch, .inl (cyI, 64, .inl jdE)), (jk3, .inr (4, [.ref ji1, .ref jiI, .ref jjb, .ref ji0, .int jj9])), (ji0, .inl (cyI, 8, .inl jlg)), (jjb, .inl (cyI, 150, .inl jlp)), (ji1, .inl (cyI, 150, .inl jkK)), (jiI, .inl (cyI, 150, .inl jkj))]) (w1 := (qa5j jfB jjJ jjK jgi jgj jgk jgz jfR jgl jgO jc5 jfS jiB jjJ cyI jlh jjK cyI jli)) (wn := (qMt a0 jch jcD jfB jk3 jch cyI jdE jfB jjJ jjK jgi jgj jgk jgz jfR jgl jgO jc5 jfS jiB jjJ cyI jlh jjK cyI jli jk3 ji1 jiI jjb ji0 jj9 ji0 cyI jlg jjb cyI jlp ji1 cyI jkK jiI cyI jkj)) hP hD [2, 3, 4] [0, 1, 5, 6, 7, 8, 9] [0, 1, 7, 8, 9, 2, 3, 4, 5, 6] hCc rfl (by decide +kernel) (by decide +kernel) (by decide +kernel) rfl hk1 hFc hP1 hD1
      generalize H1 = H at hP hS ⊢
      refine lv_aload_n hx hb (qaa qgj 0 rfl) rfl (lv_at hl 0 rfl) ?_
      refine lv_iload_n hx hb (qaa qgj 1 rfl) rfl (lv_at hl 1 rfl) ?_
      obtain ⟨hCc, hPc, hDc, hFc⟩ := qac (ws' := (qa2S a0 jch jcD jfB jk3 jch cyI jdE jfB jjJ jjK jgi jgj jgk jgz jfR jgl jgO jc5 jfS jiB jk3 ji1 jiI jjb ji0 jj9 ji0 cyI jlg jjb cyI jlp ji1 cyI jkK jiI cyI jkj)) hP hD hS hA [0, 1, 2, 5, 6, 7, 8, 9] (by decide +kernel) rfl
      refine va_calli (va_runV (As := [.int p1]) (rest := [.int r6]) ⟨hx, hb, hml, hown, hts⟩ (qXl l dC dI cyB cyI cyJ cyP a0 jch jfB jk3 ji0 jjb ji1 jiI H.size (jcD) (.ref jjJ) (.ref jjK) (jgi) (jgj) (jgk) (jgz) (jfR) (jgl) (jgO) (jfS) (jiB) jdE jc5 jj9 jkK jkj jlg jlp p1 hw) (cwV 1 hts gX1_couldLeap_X1_reach rfl rfl rfl (by decide +kernel) ⟨nbq rfl, nbq rfl⟩) ⟨qab, va_recv (q := (RX1, TX1, 4)) hK hPc (ci := 1) (q0 := 0) rfl rfl, qae hPc hK hDc hNw⟩ rfl rfl hl.1 rfl (lv_room (nbq rfl)) (qaa qgj 2 rfl) ⟨nbq rfl, nbq rfl⟩) hS (fun q _ h => hFc q h) hFc (fun r9 u t H1 locs ht hvm hw hB hz1 hk1 hS => ?_)
      obtain ⟨f7, f8⟩ := u
      obtain ⟨hP1, hK1, hD1⟩ := hB
      rw [ht] at hP1
      obtain ⟨hP, hD⟩ := qad (wr := [(jjJ, .inl (cyI, 8, .inl jlh)), (jjK, .inl (cyI, 8, .inl jli))]) (w1 := (qa2S a0 jch jcD jfB jk3 jch cyI jdE jfB jjJ jjK jgi jgj jgk jgz jfR jgl jgO jc5 jfS jiB jk3 ji1 jiI jjb ji0 jj9 ji0 cyI f7 jjb cyI f8 ji1 cyI jkK jiI cyI jkj)) (wn := (qMt a0 jch jcD jfB jk3 jch cyI jdE jfB jjJ jjK jgi jgj jgk jgz jfR jgl jgO jc5 jfS jiB jjJ cyI jlh jjK cyI jli jk3 ji1 jiI jjb ji0 jj9 ji0 cyI f7 jjb cyI f8 ji1 cyI jkK jiI cyI jkj)) hP hD [0, 1, 2, 5, 6, 7, 8, 9] [3, 4] [2, 3, 4, 0, 1, 5, 6, 7, 8, 9] hCc rfl (by decide +kernel) (by decide +kernel) (by decide +kernel) rfl hk1 hFc hP1 hD1
      generalize H1 = H at hP hS ⊢
      refine lv_icmp_gt (tgt := 42) hx hb (qaa qgj 3 rfl) (by decide) (fun c10 => ?_) (fun c10 => ?_)
      · have hw := hw.1 c10
        refine lv_iconst (v := 0) hx hb (qaa qgj 6 rfl) (by decide) ?_
        exact ((W.zret (v := 0) hx hb hr rfl (fun t ht hW => ⟨⟨0, (f7, f8), rfl, hw, by rw [ht]; exact hP, va_K.moved hW.alike hK, hD⟩, hS.F ht⟩) hS.2.2 (qaa qgj 7 rfl)))
      · have hw := hw.2 c10
        refine lv_iconst (v := 1) hx hb (qaa qgj 4 rfl) (by decide) ?_
        refine lv_goto (tgt := 43) hx hb (qaa qgj 5 rfl) (by decide) ?_
        exact ((W.zret (v := 1) hx hb hr rfl (fun t ht hW => ⟨⟨1, (f7, f8), rfl, hw, by rw [ht]; exact hP, va_K.moved hW.alike hK, hD⟩, hS.F ht⟩) hS.2.2 (qaa qgj 7 rfl)))
theorem qaFG : ∀ w ∈ u_ws RX10 TX10 19, w ∈ wsX10_can := uiM qLf qyE (by decide +kernel)
theorem qaFz : (.fieldLink RX10 58 "MarchHares" "now" "LMarchHares$Days;" : Cond) ∈ wsX10_can := qLf 79 (by decide +kernel)
set_option maxHeartbeats 4000000 in
set_option maxRecDepth 100000 in
theorem qa1C (l : Launch) (dC : Nat → ClassId) (dI : Nat → Nat → Nat) (cyB cyI cyJ cyP : ClassId) (a0 jaR jaT jbb jbs jbt jb6 jcc jck jbW jbL sz : Nat) (jaK ja1 jcp jbc jbV ja3 jbH jbO jaq jac jbI jbl jbn jba jaa jdD jbo jbp jbk jbj jbe jbq jbi jcd jbr : Value) (jbE jbm : Int32) (jbQ jci jcj : NI) (jdh : Int32) (jdN jdi : NI) (jdu : Int32) (jfl jfK : NI) (p1 p2 : Int32) {E : String → Int32 → NI → NI → Prop} {Q : Int32 → Int32 → NI → NI → Prop} (hw : qajq jbE jbm jbQ jci jcj jdh jdN jdi jdu jfl jfK p1 p2 E Q) : vx_Met l yX10_can wsX10_can ({ frames := 7, cells := 2, slots := 12, locals := 141 }) (va_Pc [.ref a0, .int p1, .int p2] (cPx l (dC, dI) (kT cyB cyI cyJ cyP) (qFA a0 jaK jaR ja1 jcp jbc jbV ja3 jbH jaT jbO jaq jac jbI jbl jbn jba jaa jdu jdD jaR jbs jbt jbo jbp jbk jbj jbe jbq jbE jbm jbi jcd jaT jbb jbr jaR jb6 jbb cyI jbQ jbs cyI jci jbt cyI jcj jb6 jbW jbL jck jcc jdh jcc cyI jfl jck cyI jfK jbW cyI jdN jbL cyI jdi) sz)) (va_Qi (fun (r : Int32) (u : Int32 × NI × NI) => Q r u.1 u.2.1 u.2.2) (cB (dC, dI) (kT cyB cyI cyJ cyP) (va_A (qFA a0 jaK jaR ja1 jcp jbc jbV ja3 jbH jaT jbO jaq jac jbI jbl jbn jba jaa jdu jdD jaR jbs jbt jbo jbp jbk jbj jbe jbq jbE jbm jbi jcd jaT jbb jbr jaR jb6 jbb cyI jbQ jbs cyI jci jbt cyI jcj jb6 jbW jbL jck jcc jdh jcc cyI jfl jck cyI jfK jbW cyI jdN jbL cyI jdi) sz) (fun u : Int32 × NI × NI => ((qFA a0 jaK jaR ja1 jcp jbc jbV ja3 jbH jaT jbO jaq jac jbI jbl jbn jba jaa u.1 jdD jaR jbs jbt jbo jbp jbk jbj jbe jbq jbE jbm jbi jcd jaT jbb jbr jaR jb6 jbb cyI jbQ jbs cyI jci jbt cyI jcj jb6 jbW jbL jck jcc jdh jcc cyI u.2.1 jck cyI u.2.2 jbW cyI jdN jbL cyI jdi) : va_W))) (va_A (qFA a0 jaK jaR ja1 jcp jbc jbV ja3 jbH jaT jbO jaq jac jbI jbl jbn jba jaa jdu jdD jaR jbs jbt jbo jbp jbk jbj jbe jbq jbE jbm jbi jcd jaT jbb jbr jaR jb6 jbb cyI jbQ jbs cyI jci jbt cyI jcj jb6 jbW jbL jck jcc jdh jcc cyI jfl jck cyI jfK jbW cyI jdN jbL cyI jdi) sz)) (vx_X (fun _ => True) (fun (en : String) (u : Int32 × NI × NI) (t : State) => E en u.1 u.2.1 u.2.2 ∧ cB (dC, dI) (kT cyB cyI cyJ cyP) (va_A (qFA a0 jaK jaR ja1 jcp jbc jbV ja3 jbH jaT jbO jaq jac jbI jbl jbn jba jaa jdu jdD jaR jbs jbt jbo jbp jbk jbj jbe jbq jbE jbm jbi jcd jaT jbb jbr jaR jb6 jbb cyI jbQ jbs cyI jci jbt cyI jcj jb6 jbW jbL jck jcc jdh jcc cyI jfl jck cyI jfK jbW cyI jdN jbL cyI jdi) sz) (fun u : Int32 × NI × NI => ((qFA a0 jaK jaR ja1 jcp jbc jbV ja3 jbH jaT jbO jaq jac jbI jbl jbn jba jaa u.1 jdD jaR jbs jbt jbo jbp jbk jbj jbe jbq jbE jbm jbi jcd jaT jbb jbr jaR jb6 jbb cyI jbQ jbs cyI jci jbt cyI jcj jb6 jbW jbL jck jcc jdh jcc cyI u.2.1 jck cyI u.2.2 jbW cyI jdN jbL cyI jdi) : va_W)) u t) (va_A (qFA a0 jaK jaR ja1 jcp jbc jbV ja3 jbH jaT jbO jaq jac jbI jbl jbn jba jaa jdu jdD jaR jbs jbt jbo jbp jbk jbj jbe jbq jbE jbm jbi jcd jaT jbb jbr jaR jb6 jbb cyI jbQ jbs cyI jci jbt cyI jcj jb6 jbW jbL jck jcc jdh jcc cyI jfl jck cyI jfK jbW cyI jdN jbL cyI jdi) sz)) 2 12 (va_A (qFA a0 jaK jaR ja1 jcp jbc jbV ja3 jbH jaT jbO jaq jac jbI jbl jbn jba jaa jdu jdD jaR jbs jbt jbo jbp jbk jbj jbe jbq jbE jbm jbi jcd jaT jbb jbr jaR jb6 jbb cyI jbQ jbs cyI jci jbt cyI jcj jb6 jbW jbL jck jcc jdh jcc cyI jfl jck cyI jfK jbW cyI jdN jbL cyI jdi) sz) := by
  refine vx_ofW (cc := cX10_can) (maxL := 3) (ret := (some .boolean)) (by decide) rfl ?_
  intro p e s m args below meth c s₁ B hml hnt hv
  obtain ⟨rfl, hsz, hP, hK, hD0, hNw, hXl, hXu, hXn, hXt⟩ := hv
  have hx := B.exec
  have hb := B.bytes
  have hr := B.returns
  have hts := atoms_spec (ws := wsX10_can) B.pre
  have hown : s.vm.findClass RX10 = some m.cls := findClass_of_methodNamed B.named
  have hlocks := B.notSynchronized
  subst hsz
  have hD := hD0.self (sz := s.heap.size)
  generalize hAe : va_A (qFA a0 jaK jaR ja1 jcp jbc jbV ja3 jbH jaT jbO jaq jac jbI jbl jbn jba jaa jdu jdD jaR jbs jbt jbo jbp jbk jbj jbe jbq jbE jbm jbi jcd jaT jbb jbr jaR jb6 jbb cyI jbQ jbs cyI jci jbt cyI jcj jb6 jbW jbL jck jcc jdh jcc cyI jfl jck cyI jfK jbW cyI jdN jbL cyI jdi) s.heap.size = A at hD hXu hXn ⊢
  have hA : ∀ q : Nat, s.heap.size ≤ q → A q := fun q h => by rw [← hAe]; exact Or.inr h
  have hS : va_S A s.heap s.heap [] := va_S.rf
  have hP : va_P (dC, dI) vwCl (qFA a0 jaK jaR ja1 jcp jbc jbV ja3 jbH jaT jbO jaq jac jbI jbl jbn jba jaa jdu jdD jaR jbs jbt jbo jbp jbk jbj jbe jbq jbE jbm jbi jcd jaT jbb jbr jaR jb6 jbb cyI jbQ jbs cyI jci jbt cyI jcj jb6 jbW jbL jck jcc jdh jcc cyI jfl jck cyI jfK jbW cyI jdN jbL cyI jdi) s.heap := hP
  have hl := lv_entry ([.ref a0, .int p1, .int p2]) (n := 3) (nbq rfl)
  rw [lg_entry_eq]
  generalize (lg_sl ([.ref a0, .int p1, .int p2]) ++ List.replicate (3 - (lg_sl ([.ref a0, .int p1, .int p2])).length) Slot.unset).toArray = ls at hl ⊢
  have hl : lv_has ls 3 [(0, .ref a0), (1, .int p1), (2, .int p2)] := hl
  have hY : cfY l s A := ⟨hXl, hXu, hXn, hXt⟩
  have hXs : cfX l s c A := ⟨hnt, hY⟩
  have C0 : cfx p s m _ meth c cX10_can (some .boolean) wsX10_can RX10 3 A (dC, dI) (kT cyB cyI cyJ cyP) ∧ cfX l s c A := ⟨⟨hx, hb, hr, hts, hown, hlocks, hml, hA, hK, hNw⟩, hXs⟩
  clear hAe
  obtain ⟨H, hH⟩ : ∃ H, H = s.heap := ⟨_, rfl⟩
  rw [← hH] at hP ⊢
  have hS : va_S A s.heap H [] := by rw [hH]; exact va_S.rf
  have hS := hS
  refine lv_aload_n hx hb (qaa qsr 0 rfl) rfl (lv_at hl 0 rfl) ?_
  refine lv_iload_n hx hb (qaa qsr 1 rfl) rfl (lv_at hl 1 rfl) ?_
  obtain ⟨hCc, hPc, hDc, hFc⟩ := qac (ws' := (qaif a0 jaK jaR ja1 jcp jbc jbV ja3 jbH jaT jbO jaq jac jbI jbl jbn jba jaa jdu jdD jaR jbs jbt jbo jbp jbk jbj jbe jbq jbE jbm jbi jcd)) hP hD hS hA [0, 1] (by decide +kernel) rfl
  refine vx_callv (vx_runV (As := [.int p1]) (rest := []) ⟨hx, hb, hml, hown, hts⟩ (qqH l dC dI cyB cyI cyJ cyP a0 jaR H.size (jaK) (ja1) (jcp) (jbc) (jbV) (ja3) (jbH) (.ref jaT) (jbO) (jaq) (jac) (jbI) (jbl) (jbn) (jba) (jaa) (jdD) (.ref jbs) (.ref jbt) (jbo) (jbp) (jbk) (jbj) (jbe) (jbq) (.int jbE) (jbi) (jcd) jbm jdu p1 hw) (cwV 1 hts gX10_can_X10_needHare rfl rfl rfl (by decide +kernel) ⟨nbq rfl, nbq rfl⟩) ⟨qau, va_recv (q := (RX10, TX10, 19)) hK hPc (ci := 10) (q0 := 0) rfl rfl, qbk hPc hK hDc hNw hY hS hFc⟩ rfl rfl hl.1 rfl (lv_room (nbq rfl)) (qaa qsr 2 rfl) ⟨nbq rfl, nbq rfl⟩) hS (fun q _ h => hFc q h) hFc (fun q _ h => hFc q h) (fun en ce q9 u t H1 locs ht hvm hpx hB hz1 hk1 hS hc9 hv9 hcl9 => ?_) (fun u t H1 locs ht hvm hw hB hz1 hk1 hS => ?_)
  · obtain ⟨x1, rfl⟩ : ∃ z, z = u := ⟨_, rfl⟩
    obtain ⟨hw, hP1, hK1, hD1⟩ := hB
    rw [ht] at hP1
    obtain ⟨hP, hD⟩ := qad (wr := (qaRW jaT jbb jbr jaR jb6 jbb cyI jbQ jbs cyI jci jbt cyI jcj jb6 jbW jbL jck jcc jdh jcc cyI jfl jck cyI jfK jbW cyI jdN jbL cyI jdi)) (w1 := (qaif a0 jaK jaR ja1 jcp jbc jbV ja3 jbH jaT jbO jaq jac jbI jbl jbn jba jaa x1 jdD jaR jbs jbt jbo jbp jbk jbj jbe jbq jbE jbm jbi jcd)) (wn := (qFA a0 jaK jaR ja1 jcp jbc jbV ja3 jbH jaT jbO jaq jac jbI jbl jbn jba jaa x1 jdD jaR jbs jbt jbo jbp jbk jbj jbe jbq jbE jbm jbi jcd jaT jbb jbr jaR jb6 jbb cyI jbQ jbs cyI jci jbt cyI jcj jb6 jbW jbL jck jcc jdh jcc cyI jfl jck cyI jfK jbW cyI jdN jbL cyI jdi)) hP hD [0, 1] [2, 3, 4, 5, 6, 7, 8, 9, 10] [9, 10, 0, 1, 2, 3, 4, 5, 6, 7, 8] hCc rfl (by decide +kernel) (by decide +kernel) (by decide +kernel) rfl hk1 hFc hP1 hD1
    generalize H1 = H at hP hS hc9 ⊢
    exact vx_out (fun x hx9 => (hXs.1 x hx9).elim) hlocks hc9 hv9 hcl9 (fun t2 ht2 hal2 => ⟨(x1, jfl, jfK), trivial, ⟨hw, by rw [ht2]; exact hP, va_K.moved hal2 hK, hD⟩, hS.F ht2⟩) hS.2.2 (nbq rfl) (nbq rfl)
  obtain ⟨x1, rfl⟩ : ∃ z, z = u := ⟨_, rfl⟩
  obtain ⟨hP1, hK1, hD1⟩ := hB
  rw [ht] at hP1
  obtain ⟨hP, hD⟩ := qad (wr := (qaRW jaT jbb jbr jaR jb6 jbb cyI jbQ jbs cyI jci jbt cyI jcj jb6 jbW jbL jck jcc jdh jcc cyI jfl jck cyI jfK jbW cyI jdN jbL cyI jdi)) (w1 := (qaif a0 jaK jaR ja1 jcp jbc jbV ja3 jbH jaT jbO jaq jac jbI jbl jbn jba jaa x1 jdD jaR jbs jbt jbo jbp jbk jbj jbe jbq jbE jbm jbi jcd)) (wn := (qFA a0 jaK jaR ja1 jcp jbc jbV ja3 jbH jaT jbO jaq jac jbI jbl jbn jba jaa x1 jdD jaR jbs jbt jbo jbp jbk jbj jbe jbq jbE jbm jbi jcd jaT jbb jbr jaR jb6 jbb cyI jbQ jbs cyI jci jbt cyI jcj jb6 jbW jbL jck jcc jdh jcc cyI jfl jck cyI jfK jbW cyI jdN jbL cyI jdi)) hP hD [0, 1] [2, 3, 4, 5, 6, 7, 8, 9, 10] [9, 10, 0, 1, 2, 3, 4, 5, 6, 7, 8] hCc rfl (by decide +kernel) (by decide +kernel) (by decide +kernel) rfl hk1 hFc hP1 hD1
  generalize H1 = H at hP hS ⊢
  refine lv_aload_n hx hb (qaa qsr 3 rfl) rfl (lv_at hl 0 rfl) ?_
  refine lv_iload_n hx hb (qaa qsr 4 rfl) rfl (lv_at hl 2 rfl) ?_
  obtain ⟨hCc, hPc, hDc, hFc⟩ := qac (ws' := (qaif a0 jaK jaR ja1 jcp jbc jbV ja3 jbH jaT jbO jaq jac jbI jbl jbn jba jaa x1 jdD jaR jbs jbt jbo jbp jbk jbj jbe jbq jbE jbm jbi jcd)) hP hD hS hA [0, 1] (by decide +kernel) rfl
  refine vx_callv (vx_runV (As := [.int p2]) (rest := []) ⟨hx, hb, hml, hown, hts⟩ (qyK l dC dI cyB cyI cyJ cyP a0 jaR H.size (jaK) (ja1) (jcp) (jbc) (jbV) (ja3) (jbH) (.ref jaT) (jbO) (jaq) (jac) (jbI) (jbl) (jbn) (jba) (jaa) (jdD) (.ref jbs) (.ref jbt) (jbo) (jbp) (jbk) (jbj) (jbe) (jbq) (.int jbm) (jbi) (jcd) jbE x1 p2 hw) (cwV 1 hts gX10_can_X10_needForm rfl rfl rfl (by decide +kernel) ⟨nbq rfl, nbq rfl⟩) ⟨qau, va_recv (q := (RX10, TX10, 19)) hK hPc (ci := 10) (q0 := 0) rfl rfl, qbk hPc hK hDc hNw hY hS hFc⟩ rfl rfl hl.1 rfl (lv_room (nbq rfl)) (qaa qsr 5 rfl) ⟨nbq rfl, nbq rfl⟩) hS (fun q _ h => hFc q h) hFc (fun q _ h => hFc q h) (fun en ce q9 u t H1 locs ht hvm hpx hB hz1 hk1 hS hc9 hv9 hcl9 => ?_) (fun u t H1 locs ht hvm hw hB hz1 hk1 hS => ?_)
  · obtain ⟨x2, rfl⟩ : ∃ z, z = u := ⟨_, rfl⟩
    obtain ⟨hw, hP1, hK1, hD1⟩ := hB
    rw [ht] at hP1
    obtain ⟨hP, hD⟩ := qad (wr := (qaRW jaT jbb jbr jaR jb6 jbb cyI jbQ jbs cyI jci jbt cyI jcj jb6 jbW jbL jck jcc jdh jcc cyI jfl jck cyI jfK jbW cyI jdN jbL cyI jdi)) (w1 := (qaif a0 jaK jaR ja1 jcp jbc jbV ja3 jbH jaT jbO jaq jac jbI jbl jbn jba jaa x2 jdD jaR jbs jbt jbo jbp jbk jbj jbe jbq jbE jbm jbi jcd)) (wn := (qFA a0 jaK jaR ja1 jcp jbc jbV ja3 jbH jaT jbO jaq jac jbI jbl jbn jba jaa x2 jdD jaR jbs jbt jbo jbp jbk jbj jbe jbq jbE jbm jbi jcd jaT jbb jbr jaR jb6 jbb cyI jbQ jbs cyI jci jbt cyI jcj jb6 jbW jbL jck jcc jdh jcc cyI jfl jck cyI jfK jbW cyI jdN jbL cyI jdi)) hP hD [0, 1] [2, 3, 4, 5, 6, 7, 8, 9, 10] [9, 10, 0, 1, 2, 3, 4, 5, 6, 7, 8] hCc rfl (by decide +kernel) (by decide +kernel) (by decide +kernel) rfl hk1 hFc hP1 hD1
    generalize H1 = H at hP hS hc9 ⊢
    exact vx_out (fun x hx9 => (hXs.1 x hx9).elim) hlocks hc9 hv9 hcl9 (fun t2 ht2 hal2 => ⟨(x2, jfl, jfK), trivial, ⟨hw, by rw [ht2]; exact hP, va_K.moved hal2 hK, hD⟩, hS.F ht2⟩) hS.2.2 (nbq rfl) (nbq rfl)
  obtain ⟨x2, rfl⟩ : ∃ z, z = u := ⟨_, rfl⟩
  obtain ⟨hP1, hK1, hD1⟩ := hB
  rw [ht] at hP1
  obtain ⟨hP, hD⟩ := qad (wr := (qaRW jaT jbb jbr jaR jb6 jbb cyI jbQ jbs cyI jci jbt cyI jcj jb6 jbW jbL jck jcc jdh jcc cyI jfl jck cyI jfK jbW cyI jdN jbL cyI jdi)) (w1 := (qaif a0 jaK jaR ja1 jcp jbc jbV ja3 jbH jaT jbO jaq jac jbI jbl jbn jba jaa x2 jdD jaR jbs jbt jbo jbp jbk jbj jbe jbq jbE jbm jbi jcd)) (wn := (qFA a0 jaK jaR ja1 jcp jbc jbV ja3 jbH jaT jbO jaq jac jbI jbl jbn jba jaa x2 jdD jaR jbs jbt jbo jbp jbk jbj jbe jbq jbE jbm jbi jcd jaT jbb jbr jaR jb6 jbb cyI jbQ jbs cyI jci jbt cyI jcj jb6 jbW jbL jck jcc jdh jcc cyI jfl jck cyI jfK jbW cyI jdN jbL cyI jdi)) hP hD [0, 1] [2, 3, 4, 5, 6, 7, 8, 9, 10] [9, 10, 0, 1, 2, 3, 4, 5, 6, 7, 8] hCc rfl (by decide +kernel) (by decide +kernel) (by decide +kernel) rfl hk1 hFc hP1 hD1
  generalize H1 = H at hP hS ⊢
  refine lv_aload_n hx hb (qaa qsr 6 rfl) rfl (lv_at hl 0 rfl) ?_
  refine va_get (D := (dC, dI)) (ci := 10) (v := .ref jaT) (C := RX10) (T := TX10) (N := 19) hx hb hts qaFG hown hK hP 0 rfl rfl 8 (by decide) (hts _ qaFz) (fun _ h9 => h9) rfl (qaa qsr 7 rfl) ?_
  refine lv_iload_n hx hb (qaa qsr 8 rfl) rfl (lv_at hl 1 rfl) ?_
  refine lv_iload_n hx hb (qaa qsr 9 rfl) rfl (lv_at hl 2 rfl) ?_
  obtain ⟨hCc, hPc, hDc, hFc⟩ := qac (ws' := (qa6N jaT jbb jbr jaR jb6 jbb cyI jbQ jaR jbs jbt jbo jbp jbk jbj jbe jbq jbE jbm jbi jcd jbs cyI jci jbt cyI jcj jb6 jbW jbL jck jcc jdh jcc cyI jfl jck cyI jfK jbW cyI jdN jbL cyI jdi)) hP hD hS hA [2, 3, 1, 4, 5, 6, 7, 8, 9, 10] (by decide +kernel) rfl
  refine va_calli (va_runV (As := [.int p1, .int p2]) (rest := []) ⟨hx, hb, hml, hown, hts⟩ (qQy l dC dI cyB cyI cyJ cyP jaT jbb jaR jbs jbt jb6 jcc jck jbW jbL H.size (jbr) (jbo) (jbp) (jbk) (jbj) (jbe) (jbq) (.int jbE) (jbi) (jcd) jbQ jbm jci jcj jdh jdN jdi jfl jfK p1 p2 hw) (cwV 2 hts gX10_can_X1_couldLeap rfl rfl rfl (by decide +kernel) ⟨nbq rfl, nbq rfl⟩) ⟨qab, va_recv (q := (RX1, TX1, 4)) hK hPc (ci := 1) (q0 := 0) rfl rfl, qae hPc hK hDc hNw⟩ rfl rfl hl.1 rfl (lv_room (nbq rfl)) (qaa qsr 10 rfl) ⟨nbq rfl, nbq rfl⟩) hS (fun q _ h => hFc q h) hFc (fun r5 u t H1 locs ht hvm hw hB hz1 hk1 hS => ?_)
  obtain ⟨f3, f4⟩ := u
  obtain ⟨hP1, hK1, hD1⟩ := hB
  rw [ht] at hP1
  obtain ⟨hP, hD⟩ := qad (wr := (qbcv a0 jaK jaR ja1 jcp jbc jbV ja3 jbH jaT jbO jaq jac jbI jbl jbn jba jaa x2 jdD)) (w1 := (qa6N jaT jbb jbr jaR jb6 jbb cyI jbQ jaR jbs jbt jbo jbp jbk jbj jbe jbq jbE jbm jbi jcd jbs cyI jci jbt cyI jcj jb6 jbW jbL jck jcc jdh jcc cyI f3 jck cyI f4 jbW cyI jdN jbL cyI jdi)) (wn := (qFA a0 jaK jaR ja1 jcp jbc jbV ja3 jbH jaT jbO jaq jac jbI jbl jbn jba jaa x2 jdD jaR jbs jbt jbo jbp jbk jbj jbe jbq jbE jbm jbi jcd jaT jbb jbr jaR jb6 jbb cyI jbQ jbs cyI jci jbt cyI jcj jb6 jbW jbL jck jcc jdh jcc cyI f3 jck cyI f4 jbW cyI jdN jbL cyI jdi)) hP hD [2, 3, 1, 4, 5, 6, 7, 8, 9, 10] [0] [0, 3, 1, 2, 4, 5, 6, 7, 8, 9, 10] hCc rfl (by decide +kernel) (by decide +kernel) (by decide +kernel) rfl hk1 hFc hP1 hD1
  generalize H1 = H at hP hS ⊢
  obtain ⟨hn9, hw⟩ := hw
  exact vx_ret (W.widen (k := 2) (n := 12) (nbq rfl) (nbq rfl) (W.zret (v := r5) hx hb hr hn9 (fun t ht hW => ⟨⟨r5, (x2, f3, f4), rfl, hw, by rw [ht]; exact hP, va_K.moved hW.alike hK, hD⟩, hS.F ht⟩) hS.2.2 (qaa qsr 11 rfl)))
theorem qaNA : (.classLink RL 31 "java/util/NoSuchElementException" : Cond) ∈ wsL_can := qaPy 2639 (by decide +kernel)
theorem qaW8 : (.codeWith yL_can cL_can 5 (some .int) [(0, 17, 20, 31)] : Cond) ∈ wsL_can := qaPy 2944 (by decide +kernel)
set_option maxHeartbeats 4000000 in
set_option maxRecDepth 100000 in
theorem qbb6 (l : Launch) (dC : Nat → ClassId) (dI : Nat → Nat → Nat) (cyB cyI cyJ cyP : ClassId) (a0 a3 jaR jaT jbb jbs jbt jb6 jcc jck jbW jbL sz : Nat) (jaK ja1 jbc jbV ja3 jbH jbO jaq jac jbI jbl jbn jba jaa jdD jbo jbp jbk jbj jbe jbq jbi jcd jbr : Value) (n3 : Nat) (jbE jbm : Int32) (jbQ jci jcj : NI) (jdh : Int32) (jdN jdi : NI) (jdu : Int32) (jfl jfK : NI) (f3 : Nat → Int64) (p1 p2 : Int32) {Q : Int32 → Int32 → NI → NI → (Nat → Int64) → Prop} (hw : qa0H n3 jbE jbm jbQ jci jcj jdh jdN jdi jdu jfl jfK f3 p1 p2 Q) : Met l yL_can wsL_can ({ frames := 8, cells := 2, slots := 12, locals := 163 }) (va_Pc [.ref a0, .int p1, .int p2, .ref a3] (cPx l (dC, dI) (kT cyB cyI cyJ cyP) (qIj a0 jaK jaR ja1 jb6 jbc jbV ja3 jbH jaT jbO jaq jac jbI jbl jbn jba jaa jdu jdD jaR jbs jbt jbo jbp jbk jbj jbe jbq jbE jbm jbi jcd jaT jbb jbr jaR jb6 jbb cyI jbQ jbs cyI jci jbt cyI jcj jb6 jbW jbL jck jcc jdh jcc cyI jfl jck cyI jfK jbW cyI jdN jbL cyI jdi a3 cyJ n3 f3) sz)) (va_Qi (fun (r : Int32) (u : Int32 × NI × NI × (Nat → Int64)) => Q r u.1 u.2.1 u.2.2.1 u.2.2.2) (cB (dC, dI) (kT cyB cyI cyJ cyP) (va_A (qIj a0 jaK jaR ja1 jb6 jbc jbV ja3 jbH jaT jbO jaq jac jbI jbl jbn jba jaa jdu jdD jaR jbs jbt jbo jbp jbk jbj jbe jbq jbE jbm jbi jcd jaT jbb jbr jaR jb6 jbb cyI jbQ jbs cyI jci jbt cyI jcj jb6 jbW jbL jck jcc jdh jcc cyI jfl jck cyI jfK jbW cyI jdN jbL cyI jdi a3 cyJ n3 f3) sz) (fun u : Int32 × NI × NI × (Nat → Int64) => ((qIj a0 jaK jaR ja1 jb6 jbc jbV ja3 jbH jaT jbO jaq jac jbI jbl jbn jba jaa u.1 jdD jaR jbs jbt jbo jbp jbk jbj jbe jbq jbE jbm jbi jcd jaT jbb jbr jaR jb6 jbb cyI jbQ jbs cyI jci jbt cyI jcj jb6 jbW jbL jck jcc jdh jcc cyI u.2.1 jck cyI u.2.2.1 jbW cyI jdN jbL cyI jdi a3 cyJ n3 u.2.2.2) : va_W))) (va_A (qIj a0 jaK jaR ja1 jb6 jbc jbV ja3 jbH jaT jbO jaq jac jbI jbl jbn jba jaa jdu jdD jaR jbs jbt jbo jbp jbk jbj jbe jbq jbE jbm jbi jcd jaT jbb jbr jaR jb6 jbb cyI jbQ jbs cyI jci jbt cyI jcj jb6 jbW jbL jck jcc jdh jcc cyI jfl jck cyI jfK jbW cyI jdN jbL cyI jdi a3 cyJ n3 f3) sz)) 2 12 (va_A (qIj a0 jaK jaR ja1 jb6 jbc jbV ja3 jbH jaT jbO jaq jac jbI jbl jbn jba jaa jdu jdD jaR jbs jbt jbo jbp jbk jbj jbe jbq jbE jbm jbi jcd jaT jbb jbr jaR jb6 jbb cyI jbQ jbs cyI jci jbt cyI jcj jb6 jbW jbL jck jcc jdh jcc cyI jfl jck cyI jfK jbW cyI jdN jbL cyI jdi a3 cyJ n3 f3) sz) := by
  refine va_MetW (cc := cL_can) (maxL := 5) (ret := (some .int)) (by decide) rfl ?_
  intro p e s m args below meth c s₁ B hml hv
  obtain ⟨rfl, hsz, hP, hK, hD0, hNw, hXl, hXu, hXn, hXt⟩ := hv
  have hx := B.exec
  have hb := B.bytes
  have hr := B.returns
  have hts := atoms_spec (ws := wsL_can) B.pre
  have hown : s.vm.findClass RL = some m.cls := findClass_of_methodNamed B.named
  have hlocks := B.notSynchronized
  subst hsz
  have hD := hD0.self (sz := s.heap.size)
  generalize hAe : va_A (qIj a0 jaK jaR ja1 jb6 jbc jbV ja3 jbH jaT jbO jaq jac jbI jbl jbn jba jaa jdu jdD jaR jbs jbt jbo jbp jbk jbj jbe jbq jbE jbm jbi jcd jaT jbb jbr jaR jb6 jbb cyI jbQ jbs cyI jci jbt cyI jcj jb6 jbW jbL jck jcc jdh jcc cyI jfl jck cyI jfK jbW cyI jdN jbL cyI jdi a3 cyJ n3 f3) s.heap.size = A at hD hXu hXn ⊢
  have hA : ∀ q : Nat, s.heap.size ≤ q → A q := fun q h => by rw [← hAe]; exact Or.inr h
  have hS : va_S A s.heap s.heap [] := va_S.rf
  have hP : va_P (dC, dI) vwCl (qIj a0 jaK jaR ja1 jb6 jbc jbV ja3 jbH jaT jbO jaq jac jbI jbl jbn jba jaa jdu jdD jaR jbs jbt jbo jbp jbk jbj jbe jbq jbE jbm jbi jcd jaT jbb jbr jaR jb6 jbb cyI jbQ jbs cyI jci jbt cyI jcj jb6 jbW jbL jck jcc jdh jcc cyI jfl jck cyI jfK jbW cyI jdN jbL cyI jdi a3 cyJ n3 f3) s.heap := hP
  have hl := lv_entry ([.ref a0, .int p1, .int p2, .ref a3]) (n := 5) (nbq rfl)
  rw [lg_entry_eq]
  generalize (lg_sl ([.ref a0, .int p1, .int p2, .ref a3]) ++ List.replicate (5 - (lg_sl ([.ref a0, .int p1, .int p2, .ref a3])).length) Slot.unset).toArray = ls at hl ⊢
  have hl : lv_has ls 5 [(0, .ref a0), (1, .int p1), (2, .int p2), (3, .ref a3)] := hl
  have hY : cfY l s A := ⟨hXl, hXu, hXn, hXt⟩
  have hTb := vx_table (x := yL_can) B (hts _ qaW8)
  clear hAe
  obtain ⟨H, hH⟩ : ∃ H, H = s.heap := ⟨_, rfl⟩
  rw [← hH] at hP ⊢
  have hS : va_S A s.heap H [] := by rw [hH]; exact va_S.rf
  have hS := hS
  refine lv_aload_n hx hb (qaa qpJ 0 rfl) rfl (lv_at hl 3 rfl) ?_
  refine lv_iconst (v := 0) hx hb (qaa qpJ 1 rfl) (by decide) ?_
  refine lv_aload_n hx hb (qaa qpJ 2 rfl) rfl (lv_at hl 0 rfl) ?_
  refine lv_iload_n hx hb (qaa qpJ 3 rfl) rfl (lv_at hl 1 rfl) ?_
  refine lv_iload_n hx hb (qaa qpJ 4 rfl) rfl (lv_at hl 2 rfl) ?_
  obtain ⟨hCc, hPc, hDc, hFc⟩ := qac (ws' := (qaXZ a0 jaK jaR ja1 jb6 jbc jbV ja3 jbH jaT jbO jaq jac jbI jbl jbn jba jaa jdu jdD jaR jbs jbt jbo jbp jbk jbj jbe jbq jbE jbm jbi jcd jaT jbb jbr jaR jb6 jbb cyI jbQ jbs cyI jci jbt cyI jcj jb6 jbW jbL jck jcc jdh jcc cyI jfl jck cyI jfK jbW cyI jdN jbL cyI jdi)) hP hD hS hA [0, 1, 2, 3, 4, 5, 6, 7, 8, 9, 10] (by decide +kernel) rfl
  refine vx_calli (vx_runV (As := [.int p1, .int p2]) (rest := [.int 0, .ref a3]) ⟨hx, hb, hml, hown, hts⟩ (qa1C l dC dI cyB cyI cyJ cyP a0 jaR jaT jbb jbs jbt jb6 jcc jck jbW jbL H.size (jaK) (ja1) (.ref jb6) (jbc) (jbV) (ja3) (jbH) (jbO) (jaq) (jac) (jbI) (jbl) (jbn) (jba) (jaa) (jdD) (jbo) (jbp) (jbk) (jbj) (jbe) (jbq) (jbi) (jcd) (jbr) jbE jbm jbQ jci jcj jdh jdN jdi jdu jfl jfK p1 p2 hw) (cwV 2 hts gL_can_X10_can rfl rfl rfl (by decide +kernel) ⟨nbq rfl, nbq rfl⟩) ⟨qau, va_recv (q := (RX10, TX10, 19)) hK hPc (ci := 10) (q0 := 0) rfl rfl, qbk hPc hK hDc hNw hY hS hFc⟩ rfl rfl hl.1 rfl (lv_room (nbq rfl)) (qaa qpJ 5 rfl) ⟨nbq rfl, nbq rfl⟩) hS (fun q _ h => hFc q h) hFc (fun q _ h => hFc q h) (fun en ce qx9 u t H1 locs ht hvm hpx hB hz1 hk1 hS hc9 hv9 hcl9 => ?_) (fun r5 u t H1 locs ht hvm hw hB hz1 hk1 hS => ?_)
  · obtain ⟨x1, f2, f4⟩ := u
    obtain ⟨hw, hP1, hK1, hD1⟩ := hB
    rw [ht] at hP1
    obtain ⟨hP, hD⟩ := qad (wr := [(a3, .inl (cyJ, n3, .inr (.inl f3)))]) (w1 := (qaXZ a0 jaK jaR ja1 jb6 jbc jbV ja3 jbH jaT jbO jaq jac jbI jbl jbn jba jaa x1 jdD jaR jbs jbt jbo jbp jbk jbj jbe jbq jbE jbm jbi jcd jaT jbb jbr jaR jb6 jbb cyI jbQ jbs cyI jci jbt cyI jcj jb6 jbW jbL jck jcc jdh jcc cyI f2 jck cyI f4 jbW cyI jdN jbL cyI jdi)) (wn := (qIj a0 jaK jaR ja1 jb6 jbc jbV ja3 jbH jaT jbO jaq jac jbI jbl jbn jba jaa x1 jdD jaR jbs jbt jbo jbp jbk jbj jbe jbq jbE jbm jbi jcd jaT jbb jbr jaR jb6 jbb cyI jbQ jbs cyI jci jbt cyI jcj jb6 jbW jbL jck jcc jdh jcc cyI f2 jck cyI f4 jbW cyI jdN jbL cyI jdi a3 cyJ n3 f3)) hP hD [0, 1, 2, 3, 4, 5, 6, 7, 8, 9, 10] [11] [1, 2, 3, 4, 5, 6, 7, 8, 9, 10, 11, 0] hCc rfl (by decide +kernel) (by decide +kernel) (by decide +kernel) rfl hk1 hFc hP1 hD1
    generalize H1 = H at hP hS hc9 ⊢
    obtain ⟨rfl, hw⟩ := hw
    refine vx_catch (own := RL) (name := "java/util/NoSuchElementException") hown [] ⟨0, 17, 20, 31⟩ [] (hTb.trans rfl) (fun z hz => nomatch hz) (by decide) (by decide) (hts _ qaNA) (va_Nw.use rfl (hY.2.2.2.1.2 _ (List.mem_of_getElem? (i := 1) rfl))) hc9 hv9 hcl9 ?_
    refine lv_astore (lv' := [(4, .ref qx9), (0, .ref a0), (1, .int p1), (2, .int p2), (3, .ref a3)]) hx hb (qaa qpJ 12 rfl) hl (by decide) rfl (fun ls hl => ?_)
    refine lv_iconst (v := 1) hx hb (qaa qpJ 13 rfl) (by decide) ?_
    exact (W.widen (k := 2) (n := 12) (nbq rfl) (nbq rfl) (W.iret (v := 1) hx hb hr (fun t ht hW => ⟨⟨1, (x1, f2, f4, f3), rfl, hw, by rw [ht]; exact hP, va_K.moved hW.alike hK, hD⟩, hS.F ht⟩) hS.2.2 (qaa qpJ 14 rfl)))
  obtain ⟨x1, f2, f4⟩ := u
  obtain ⟨hP1, hK1, hD1⟩ := hB
  rw [ht] at hP1
  obtain ⟨hP, hD⟩ := va_join (wr := [(a3, .inl (cyJ, n3, .inr (.inl f3)))]) (w1 := (qaXZ a0 jaK jaR ja1 jb6 jbc jbV ja3 jbH jaT jbO jaq jac jbI jbl jbn jba jaa x1 jdD jaR jbs jbt jbo jbp jbk jbj jbe jbq jbE jbm jbi jcd jaT jbb jbr jaR jb6 jbb cyI jbQ jbs cyI jci jbt cyI jcj jb6 jbW jbL jck jcc jdh jcc cyI f2 jck cyI f4 jbW cyI jdN jbL cyI jdi)) hP hD [0, 1, 2, 3, 4, 5, 6, 7, 8, 9, 10] [11] rfl rfl (by decide) (by decide) hk1 hFc hP1 hD1
  have hP : va_P (dC, dI) vwCl (qIj a0 jaK jaR ja1 jb6 jbc jbV ja3 jbH jaT jbO jaq jac jbI jbl jbn jba jaa x1 jdD jaR jbs jbt jbo jbp jbk jbj jbe jbq jbE jbm jbi jcd jaT jbb jbr jaR jb6 jbb cyI jbQ jbs cyI jci jbt cyI jcj jb6 jbW jbL jck jcc jdh jcc cyI f2 jck cyI f4 jbW cyI jdN jbL cyI jdi a3 cyJ n3 f3) H1 := hP.sub [1, 2, 3, 4, 5, 6, 7, 8, 9, 10, 11, 0] rfl
  have hD : va_D A (qIj a0 jaK jaR ja1 jb6 jbc jbV ja3 jbH jaT jbO jaq jac jbI jbl jbn jba jaa x1 jdD jaR jbs jbt jbo jbp jbk jbj jbe jbq jbE jbm jbi jcd jaT jbb jbr jaR jb6 jbb cyI jbQ jbs cyI jci jbt cyI jcj jb6 jbW jbL jck jcc jdh jcc cyI f2 jck cyI f4 jbW cyI jdN jbL cyI jdi a3 cyJ n3 f3) := hD.sub [1, 2, 3, 4, 5, 6, 7, 8, 9, 10, 11, 0] (by decide) rfl
  generalize H1 = H at hP hS ⊢
  refine lv_if_eq (tgt := 15) hx hb (qaa qpJ 6 rfl) (by decide) (fun c6 => ?_) (fun c6 => ?_)
  · have hw := hw.1 c6
    refine lv_lconst (v := 0) hx hb (qaa qpJ 9 rfl) (by decide) ?_
    obtain ⟨hi9, hw⟩ := hw
    refine va_last hx hb hK hP hD hS 11 2 rfl rfl hi9 (qaa qpJ 10 rfl) (fun H locs hP hD hS => ?_)
    obtain ⟨f7, ef7⟩ : ∃ y : Nat → Int64, y = vp_updL f3 (0 : Int32).toNatClampNeg 0 := ⟨_, rfl⟩
    have hw := hw f7 ef7
    have hP : va_P (dC, dI) vwCl (qIj a0 jaK jaR ja1 jb6 jbc jbV ja3 jbH jaT jbO jaq jac jbI jbl jbn jba jaa x1 jdD jaR jbs jbt jbo jbp jbk jbj jbe jbq jbE jbm jbi jcd jaT jbb jbr jaR jb6 jbb cyI jbQ jbs cyI jci jbt cyI jcj jb6 jbW jbL jck jcc jdh jcc cyI f2 jck cyI f4 jbW cyI jdN jbL cyI jdi a3 cyJ n3 f7) H := by rw [ef7]; exact hP
    have hD : va_D A (qIj a0 jaK jaR ja1 jb6 jbc jbV ja3 jbH jaT jbO jaq jac jbI jbl jbn jba jaa x1 jdD jaR jbs jbt jbo jbp jbk jbj jbe jbq jbE jbm jbi jcd jaT jbb jbr jaR jb6 jbb cyI jbQ jbs cyI jci jbt cyI jcj jb6 jbW jbL jck jcc jdh jcc cyI f2 jck cyI f4 jbW cyI jdN jbL cyI jdi a3 cyJ n3 f7) := by rw [ef7]; exact hD
    refine lv_goto (tgt := 24) hx hb (qaa qpJ 11 rfl) (by decide) ?_
    refine lv_iconst (v := 0) hx hb (qaa qpJ 15 rfl) (by decide) ?_
    exact (W.widen (k := 2) (n := 12) (nbq rfl) (nbq rfl) (W.iret (v := 0) hx hb hr (fun t ht hW => ⟨⟨0, (x1, f2, f4, f7), rfl, hw, by rw [ht]; exact hP, va_K.moved hW.alike hK, hD⟩, hS.F ht⟩) hS.2.2 (qaa qavt 0 rfl)))
  · have hw := hw.2 c6
    refine lv_lconst (v := 1) hx hb (qaa qpJ 7 rfl) (by decide) ?_
    refine lv_goto (tgt := 16) hx hb (qaa qpJ 8 rfl) (by decide) ?_
    obtain ⟨hi9, hw⟩ := hw
    refine va_last hx hb hK hP hD hS 11 2 rfl rfl hi9 (qaa qpJ 10 rfl) (fun H locs hP hD hS => ?_)
    obtain ⟨f8, ef8⟩ : ∃ y : Nat → Int64, y = vp_updL f3 (0 : Int32).toNatClampNeg 1 := ⟨_, rfl⟩
    have hw := hw f8 ef8
    have hP : va_P (dC, dI) vwCl (qIj a0 jaK jaR ja1 jb6 jbc jbV ja3 jbH jaT jbO jaq jac jbI jbl jbn jba jaa x1 jdD jaR jbs jbt jbo jbp jbk jbj jbe jbq jbE jbm jbi jcd jaT jbb jbr jaR jb6 jbb cyI jbQ jbs cyI jci jbt cyI jcj jb6 jbW jbL jck jcc jdh jcc cyI f2 jck cyI f4 jbW cyI jdN jbL cyI jdi a3 cyJ n3 f8) H := by rw [ef8]; exact hP
    have hD : va_D A (qIj a0 jaK jaR ja1 jb6 jbc jbV ja3 jbH jaT jbO jaq jac jbI jbl jbn jba jaa x1 jdD jaR jbs jbt jbo jbp jbk jbj jbe jbq jbE jbm jbi jcd jaT jbb jbr jaR jb6 jbb cyI jbQ jbs cyI jci jbt cyI jcj jb6 jbW jbL jck jcc jdh jcc cyI f2 jck cyI f4 jbW cyI jdN jbL cyI jdi a3 cyJ n3 f8) := by rw [ef8]; exact hD
    refine lv_goto (tgt := 24) hx hb (qaa qpJ 11 rfl) (by decide) ?_
    refine lv_iconst (v := 0) hx hb (qaa qpJ 15 rfl) (by decide) ?_
    exact (W.widen (k := 2) (n := 12) (nbq rfl) (nbq rfl) (W.iret (v := 0) hx hb hr (fun t ht hW => ⟨⟨0, (x1, f2, f4, f8), rfl, hw, by rw [ht]; exact hP, va_K.moved hW.alike hK, hD⟩, hS.F ht⟩) hS.2.2 (qaa qavt 0 rfl)))
theorem qZX : ∀ w ∈ u_ws RX1 TX1 4, w ∈ wsX1_givenBy := uiM qxq qV8 (by decide +kernel)
theorem qaul : ∀ w ∈ u_ws RX2 TX2 12, w ∈ wsX1_givenBy := uiM qxq qLg (by decide +kernel)
theorem qaih : (.fieldLink RX1 17 "MarchHares$Days" "owedEach" "[I" : Cond) ∈ wsX1_givenBy := qxq 277 (by decide +kernel)
theorem qair : (.fieldLink RX1 24 "MarchHares$Days" "down" "LMarchHares$Down;" : Cond) ∈ wsX1_givenBy := qxq 322 (by decide +kernel)
theorem qanK : (.fieldLink RX1 32 "MarchHares$Down" "hares" "I" : Cond) ∈ wsX1_givenBy := qxq 324 (by decide +kernel)
theorem qaeW : (.initialized "java/lang/Math" : Cond) ∈ wsX1_givenBy := qxq 651 (by decide +kernel)
theorem qagl : (.methodLink RX1 171 Lib.Math.min.name : Cond) ∈ wsX1_givenBy := qxq 3848 (by decide +kernel)
theorem q96 : (.code Lib.Math.min.name Lib.Math.min.code 2 (some .int) : Cond) ∈ wsX1_givenBy := qxq 652 (by decide +kernel)
theorem q9q : (.static Lib.Math.min.name : Cond) ∈ wsX1_givenBy := qxq 650 (by decide +kernel)
set_option maxHeartbeats 4000000 in
set_option maxRecDepth 100000 in
theorem qazC {p : Program} {l : Launch} {e : Env} {s : State} {m : MethodId} {args : Array Value} {below : List Frame} {meth : Method} {c : Code} {A : Nat → Prop} (dC : Nat → ClassId) (dI : Nat → Nat → Nat) (cyB cyI cyJ cyP : ClassId) (a0 jfB jlN : Nat) (jmX jhx jhp jhq jgi jgj jgk jgz jfR jgl jgO jfS jiB : Value) (jc5 : Int32) (jmp : NI) (Q : Int32 → Prop) (C0 : cfx p s m args meth c cX1_givenBy (some .int) wsX1_givenBy RX1 4 A (dC, dI) (kT cyB cyI cyJ cyP)) : ∀ (n : Nat) (H : Heap) (locs : List Loc) (ls : Array Slot) (l1 l2 l3 : Int32), va_P (dC, dI) vwCl (qTB a0 jmX jlN jfB jhx jfB jhp jhq jgi jgj jgk jgz jfR jgl jgO jc5 jfS jiB jlN cyI jmp) H → va_D A (qTB a0 jmX jlN jfB jhx jfB jhp jhq jgi jgj jgk jgz jfR jgl jgO jc5 jfS jiB jlN cyI jmp) → va_S A s.heap H locs → lv_has ls 4 [(0, .ref a0), (1, .int l1), (2, .int l2), (3, .int l3)] → qIF jc5 jmp Q n l1 l2 l3 → W p l e (headSpec wsX1_givenBy ({ frames := 1, cells := 0, slots := 0, locals := 32 })).room s m args below meth c H locs 0 0 (MQ below (va_Qi (fun (r : Int32) (_ : Unit) => Q r ) (cB (dC, dI) (kT cyB cyI cyJ cyP) A (fun u : Unit => ((qTB a0 jmX jlN jfB jhx jfB jhp jhq jgi jgj jgk jgz jfR jgl jgO jc5 jfS jiB jlN cyI jmp) : va_W))) A) args s 0 0 A) (F0 m 4 ls []) := by
  obtain ⟨hx, hb, hr, hts, hown, hlocks, hml, hA, hK, hNw⟩ := id C0
  intro n
  induction n with
  | zero => intro H locs ls l1 l2 l3 hP hD hS hl hw; exact False.elim hw
  | succ n ih =>
    intro H locs ls l1 l2 l3 hP hD hS hl hw
    refine lv_iload_n hx hb (qaa qhA 4 rfl) rfl (lv_at hl 3 rfl) ?_
    refine lv_aload_n hx hb (qaa qhA 5 rfl) rfl (lv_at hl 0 rfl) ?_
    refine va_get (D := (dC, dI)) (ci := 1) (v := .ref jfB) (C := RX1) (T := TX1) (N := 4) hx hb hts qZX hown hK hP 0 rfl rfl 2 (by decide) (hts _ qair) (fun _ h9 => h9) rfl (qaa qhA 6 rfl) ?_
    refine va_get (D := (dC, dI)) (ci := 2) (v := .int jc5) (C := RX2) (T := TX2) (N := 12) hx hb hts qaul hown hK hP 1 rfl rfl 9 (by decide) (hts _ qanK) (fun _ h9 => h9) rfl (qaa qhA 7 rfl) ?_
    refine lv_icmp_ge (tgt := 34) hx hb (qaa qhA 8 rfl) (by decide) (fun c1 => ?_) (fun c1 => ?_)
    · have hw := hw.1 c1
      refine lv_iload_n hx hb (qaa qwB 4 rfl) rfl (lv_at hl 2 rfl) ?_
      exact ((W.iret (v := l2) hx hb hr (fun t ht hW => ⟨⟨l2, (), rfl, hw, by rw [ht]; exact hP, va_K.moved hW.alike hK, hD⟩, hS.F ht⟩) hS.2.2 (qaa qwB 5 rfl)))
    · have hw := hw.2 c1
      refine lv_iload_n hx hb (qaa qhA 9 rfl) rfl (lv_at hl 2 rfl) ?_
      refine lv_iload_n hx hb (qaa qhA 10 rfl) rfl (lv_at hl 1 rfl) ?_
      refine lv_aload_n hx hb (qaa qhA 11 rfl) rfl (lv_at hl 0 rfl) ?_
      refine va_get (D := (dC, dI)) (ci := 1) (v := .ref jlN) (C := RX1) (T := TX1) (N := 4) hx hb hts qZX hown hK hP 0 rfl rfl 1 (by decide) (hts _ qaih) (fun _ h9 => h9) rfl (qaa qhA 12 rfl) ?_
      refine lv_iload_n hx hb (qaa qhA 13 rfl) rfl (lv_at hl 3 rfl) ?_
      obtain ⟨hi9, hw⟩ := hw
      refine va_iald hx hb hK hP 2 1 rfl rfl hi9 (qaa qhA 14 rfl) ?_
      refine lv_topi (fun x2 ex2 => ?_)
      have hw := hw x2 ex2
      refine va_mmin hx hb (by rw [hml]; exact hl.1.symm) hown (hts _ qagl) (hts _ q9q) (hts _ qaeW) (hts _ q96) (nbq rfl) (nbq rfl) (nbq rfl) (nbq rfl) (qaa qhA 15 rfl) ?_
      refine lv_topi (fun x3 ex3 => ?_)
      have hw := hw x3 ex3
      refine lv_iadd hx hb (qaa qwB 0 rfl) ?_
      refine lv_topi (fun x4 ex4 => ?_)
      have hw := hw x4 ex4
      refine lv_istore_n (lv' := [(2, .int x4), (0, .ref a0), (1, .int l1), (3, .int l3)]) hx hb (qaa qwB 1 rfl) rfl hl (by decide) rfl (fun ls hl => ?_)
      obtain ⟨x5, ex5⟩ : ∃ y : Int32, y = l3 + 1 := ⟨_, rfl⟩
      have hw := hw x5 ex5
      refine lv_iinc (v := x5) (lv' := [(3, .int x5), (2, .int x4), (0, .ref a0), (1, .int l1)]) hx hb (qaa qwB 2 rfl) hl (k := 3) rfl (by rw [ex5]; rfl) (by decide) rfl (fun ls hl => ?_)
      refine lv_goto (tgt := 4) hx hb (qaa qwB 3 rfl) (by decide) ?_
      exact ih _ _ _ l1 x4 x5 hP hD hS (lv_sub hl [2, 3, 1, 0] rfl) hw
set_option maxHeartbeats 4000000 in
set_option maxRecDepth 100000 in
theorem qaPO (l : Launch) (dC : Nat → ClassId) (dI : Nat → Nat → Nat) (cyB cyI cyJ cyP : ClassId) (a0 jfB jlN sz : Nat) (jmX jhx jhp jhq jgi jgj jgk jgz jfR jgl jgO jfS jiB : Value) (jc5 : Int32) (jmp : NI) (p1 : Int32) {Q : Int32 → Prop} (hw : qWy jc5 jmp p1 Q) : Met l yX1_givenBy wsX1_givenBy ({ frames := 1, cells := 0, slots := 0, locals := 32 }) (va_Pc [.ref a0, .int p1] (cPc (dC, dI) (kT cyB cyI cyJ cyP) (qTB a0 jmX jlN jfB jhx jfB jhp jhq jgi jgj jgk jgz jfR jgl jgO jc5 jfS jiB jlN cyI jmp) sz)) (va_Qi (fun (r : Int32) (_ : Unit) => Q r ) (cB (dC, dI) (kT cyB cyI cyJ cyP) (va_A (qTB a0 jmX jlN jfB jhx jfB jhp jhq jgi jgj jgk jgz jfR jgl jgO jc5 jfS jiB jlN cyI jmp) sz) (fun u : Unit => ((qTB a0 jmX jlN jfB jhx jfB jhp jhq jgi jgj jgk jgz jfR jgl jgO jc5 jfS jiB jlN cyI jmp) : va_W))) (va_A (qTB a0 jmX jlN jfB jhx jfB jhp jhq jgi jgj jgk jgz jfR jgl jgO jc5 jfS jiB jlN cyI jmp) sz)) 0 0 (va_A (qTB a0 jmX jlN jfB jhx jfB jhp jhq jgi jgj jgk jgz jfR jgl jgO jc5 jfS jiB jlN cyI jmp) sz) := by
  refine Met.ofW (cc := cX1_givenBy) (maxL := 4) (ret := (some .int)) (by decide) rfl ?_
  intro p e s m args below meth c s₁ B hml hv
  obtain ⟨rfl, hsz, hP, hK, hD0, hNw⟩ := hv
  have hx := B.exec
  have hb := B.bytes
  have hr := B.returns
  have hts := atoms_spec (ws := wsX1_givenBy) B.pre
  have hown : s.vm.findClass RX1 = some m.cls := findClass_of_methodNamed B.named
  have hlocks := B.notSynchronized
  subst hsz
  have hD := hD0.self (sz := s.heap.size)
  generalize hAe : va_A (qTB a0 jmX jlN jfB jhx jfB jhp jhq jgi jgj jgk jgz jfR jgl jgO jc5 jfS jiB jlN cyI jmp) s.heap.size = A at hD ⊢
  have hA : ∀ q : Nat, s.heap.size ≤ q → A q := fun q h => by rw [← hAe]; exact Or.inr h
  have hS : va_S A s.heap s.heap [] := va_S.rf
  have hP : va_P (dC, dI) vwCl (qTB a0 jmX jlN jfB jhx jfB jhp jhq jgi jgj jgk jgz jfR jgl jgO jc5 jfS jiB jlN cyI jmp) s.heap := hP
  have hl := lv_entry ([.ref a0, .int p1]) (n := 4) (nbq rfl)
  rw [lg_entry_eq]
  generalize (lg_sl ([.ref a0, .int p1]) ++ List.replicate (4 - (lg_sl ([.ref a0, .int p1])).length) Slot.unset).toArray = ls at hl ⊢
  have hl : lv_has ls 4 [(0, .ref a0), (1, .int p1)] := hl
  have C0 : cfx p s m _ meth c cX1_givenBy (some .int) wsX1_givenBy RX1 4 A (dC, dI) (kT cyB cyI cyJ cyP) := ⟨hx, hb, hr, hts, hown, hlocks, hml, hA, hK, hNw⟩
  clear hAe
  obtain ⟨H, hH⟩ : ∃ H, H = s.heap := ⟨_, rfl⟩
  rw [← hH] at hP ⊢
  have hS : va_S A s.heap H [] := by rw [hH]; exact va_S.rf
  have hS := hS
  refine lv_iconst (v := 0) hx hb (qaa qhA 0 rfl) (by decide) ?_
  refine lv_istore_n (lv' := [(2, .int 0), (0, .ref a0), (1, .int p1)]) hx hb (qaa qhA 1 rfl) rfl hl (by decide) rfl (fun ls hl => ?_)
  refine lv_iconst (v := 0) hx hb (qaa qhA 2 rfl) (by decide) ?_
  refine lv_istore_n (lv' := [(3, .int 0), (2, .int 0), (0, .ref a0), (1, .int p1)]) hx hb (qaa qhA 3 rfl) rfl hl (by decide) rfl (fun ls hl => ?_)
  obtain ⟨n9, hw⟩ := hw
  exact qazC dC dI cyB cyI cyJ cyP a0 jfB jlN jmX jhx jhp jhq jgi jgj jgk jgz jfR jgl jgO jfS jiB jc5 jmp Q C0 n9 _ _ _ p1 0 0 hP hD hS (lv_sub hl [2, 3, 1, 0] rfl) hw
theorem qH9 : ∀ w ∈ u_ws RX1 TX1 4, w ∈ wsX1_cloverFor := uiM qjq qV8 (by decide +kernel)
theorem qagj : ∀ w ∈ u_ws RX2 TX2 12, w ∈ wsX1_cloverFor := uiM qjq qLg (by decide +kernel)
theorem qP9 : (.fieldLink RX1 17 "MarchHares$Days" "owedEach" "[I" : Cond) ∈ wsX1_cloverFor := qjq 277 (by decide +kernel)
theorem q8V : (.fieldLink RX1 24 "MarchHares$Days" "down" "LMarchHares$Down;" : Cond) ∈ wsX1_cloverFor := qjq 322 (by decide +kernel)
theorem qaaK : (.fieldLink RX1 32 "MarchHares$Down" "hares" "I" : Cond) ∈ wsX1_cloverFor := qjq 324 (by decide +kernel)
theorem qXe : (.initialized RX10 : Cond) ∈ wsX1_cloverFor := qjq 2 (by decide +kernel)
theorem q5F : (.initialized "java/lang/Math" : Cond) ∈ wsX1_cloverFor := qjq 651 (by decide +kernel)
theorem q5w : (.methodLink RX1 171 Lib.Math.min.name : Cond) ∈ wsX1_cloverFor := qjq 3848 (by decide +kernel)
theorem q2g : (.code Lib.Math.min.name Lib.Math.min.code 2 (some .int) : Cond) ∈ wsX1_cloverFor := qjq 652 (by decide +kernel)
theorem q3r : (.static Lib.Math.min.name : Cond) ∈ wsX1_cloverFor := qjq 650 (by decide +kernel)
theorem qQw : (.static yX10_holds : Cond) ∈ wsX1_cloverFor := qjq 2052 (by decide +kernel)
set_option maxHeartbeats 4000000 in
set_option maxRecDepth 100000 in
theorem qRW {p : Program} {l : Launch} {e : Env} {s : State} {m : MethodId} {args : Array Value} {below : List Frame} {meth : Method} {c : Code} {A : Nat → Prop} (dC : Nat → ClassId) (dI : Nat → Nat → Nat) (cyB cyI cyJ cyP : ClassId) (a0 jfB jlN jch : Nat) (jhx jhp jhq jgi jgj jgk jgz jfR jgl jgO jfS jiB : Value) (jc5 : Int32) (jdE : NI) (Q : Int32 → NI → Prop) (K3 : NI → Int32 → Int32 → Int32 → Int32 → Prop) (hK3 : ∀ (H : Heap) (locs : List Loc) (ls : Array Slot) (jmp : NI) (l1 l2 l3 l4 : Int32), va_P (dC, dI) vwCl (qrD a0 jch jlN jfB jhx jfB jhp jhq jgi jgj jgk jgz jfR jgl jgO jc5 jfS jiB jch cyI jdE jlN cyI jmp) H → va_D A (qrD a0 jch jlN jfB jhx jfB jhp jhq jgi jgj jgk jgz jfR jgl jgO jc5 jfS jiB jch cyI jdE jlN cyI jmp) → va_S A s.heap H locs → lv_has ls 5 [(0, .ref a0), (1, .int l1), (2, .int l2), (3, .int l3), (4, .int l4)] → K3 jmp l1 l2 l3 l4 → W p l e (headSpec wsX1_cloverFor ({ frames := 2, cells := 0, slots := 0, locals := 55 })).room s m args below meth c H locs 0 0 (MQ below (va_Qi (fun (r : Int32) (u : NI) => Q r u) (cB (dC, dI) (kT cyB cyI cyJ cyP) A (fun u : NI => ((qrD a0 jch jlN jfB jhx jfB jhp jhq jgi jgj jgk jgz jfR jgl jgO jc5 jfS jiB jch cyI jdE jlN cyI u) : va_W))) A) args s 0 0 A) (F0 m 3 ls [])) (C0 : cfx p s m args meth c cX1_cloverFor (some .int) wsX1_cloverFor RX1 5 A (dC, dI) (kT cyB cyI cyJ cyP)) : ∀ (H : Heap) (locs : List Loc) (ls : Array Slot) (jmp : NI) (l1 l2 l3 l4 s1 s2 : Int32), va_P (dC, dI) vwCl (qrD a0 jch jlN jfB jhx jfB jhp jhq jgi jgj jgk jgz jfR jgl jgO jc5 jfS jiB jch cyI jdE jlN cyI jmp) H → va_D A (qrD a0 jch jlN jfB jhx jfB jhp jhq jgi jgj jgk jgz jfR jgl jgO jc5 jfS jiB jch cyI jdE jlN cyI jmp) → va_S A s.heap H locs → lv_has ls 5 [(0, .ref a0), (1, .int l1), (2, .int l2), (3, .int l3), (4, .int l4)] → qBl jc5 jdE Q K3 jmp l1 l2 l3 l4 s1 s2 → W p l e (headSpec wsX1_cloverFor ({ frames := 2, cells := 0, slots := 0, locals := 55 })).room s m args below meth c H locs 0 0 (MQ below (va_Qi (fun (r : Int32) (u : NI) => Q r u) (cB (dC, dI) (kT cyB cyI cyJ cyP) A (fun u : NI => ((qrD a0 jch jlN jfB jhx jfB jhp jhq jgi jgj jgk jgz jfR jgl jgO jc5 jfS jiB jch cyI jdE jlN cyI u) : va_W))) A) args s 0 0 A) (F0 m 40 ls [.int s2, .int s1, .ref jlN]) := by
  obtain ⟨hx, hb, hr, hts, hown, hlocks, hml, hA, hK, hNw⟩ := id C0
  intro H locs ls jmp l1 l2 l3 l4 s1 s2 hP hD hS hl hw
  obtain ⟨hi9, hw⟩ := hw
  refine va_iast hx hb hK hP hD hS 3 1 rfl rfl hi9 (qaa qdl 3 rfl) (fun H locs hP hD hS => ?_)
  obtain ⟨f10, ef10⟩ : ∃ y : NI, y = upd jmp s1.toNatClampNeg s2 := ⟨_, rfl⟩
  have hw := hw f10 ef10
  have hP : va_P (dC, dI) vwCl (qrD a0 jch jlN jfB jhx jfB jhp jhq jgi jgj jgk jgz jfR jgl jgO jc5 jfS jiB jch cyI jdE jlN cyI f10) H := by rw [ef10]; exact hP
  have hD : va_D A (qrD a0 jch jlN jfB jhx jfB jhp jhq jgi jgj jgk jgz jfR jgl jgO jc5 jfS jiB jch cyI jdE jlN cyI f10) := by rw [ef10]; exact hD
  obtain ⟨x11, ex11⟩ : ∃ y : Int32, y = l4 + 1 := ⟨_, rfl⟩
  have hw := hw x11 ex11
  refine lv_iinc (v := x11) (lv' := [(4, .int x11), (0, .ref a0), (1, .int l1), (2, .int l2), (3, .int l3)]) hx hb (qaa qdl 4 rfl) hl (k := 4) rfl (by rw [ex11]; rfl) (by decide) rfl (fun ls hl => ?_)
  refine lv_goto (tgt := 3) hx hb (qaa qdl 5 rfl) (by decide) ?_
  exact hK3 _ _ _ f10 l1 l2 l3 x11 hP hD hS (lv_sub hl [1, 2, 3, 4, 0] rfl) hw
set_option maxHeartbeats 4000000 in
set_option maxRecDepth 100000 in
theorem qR1 {p : Program} {l : Launch} {e : Env} {s : State} {m : MethodId} {args : Array Value} {below : List Frame} {meth : Method} {c : Code} {A : Nat → Prop} (dC : Nat → ClassId) (dI : Nat → Nat → Nat) (cyB cyI cyJ cyP : ClassId) (a0 jfB jlN jch : Nat) (jhx jhp jhq jgi jgj jgk jgz jfR jgl jgO jfS jiB : Value) (jc5 : Int32) (jdE : NI) (Q : Int32 → NI → Prop) (C0 : cfx p s m args meth c cX1_cloverFor (some .int) wsX1_cloverFor RX1 5 A (dC, dI) (kT cyB cyI cyJ cyP)) : ∀ (H : Heap) (locs : List Loc) (ls : Array Slot) (jmp : NI) (l1 l4 : Int32), va_P (dC, dI) vwCl (qrD a0 jch jlN jfB jhx jfB jhp jhq jgi jgj jgk jgz jfR jgl jgO jc5 jfS jiB jch cyI jdE jlN cyI jmp) H → va_D A (qrD a0 jch jlN jfB jhx jfB jhp jhq jgi jgj jgk jgz jfR jgl jgO jc5 jfS jiB jch cyI jdE jlN cyI jmp) → va_S A s.heap H locs → lv_has ls 5 [(0, .ref a0), (1, .int l1), (4, .int l4)] → qBj jc5 jdE Q jmp l1 l4 → W p l e (headSpec wsX1_cloverFor ({ frames := 2, cells := 0, slots := 0, locals := 55 })).room s m args below meth c H locs 0 0 (MQ below (va_Qi (fun (r : Int32) (u : NI) => Q r u) (cB (dC, dI) (kT cyB cyI cyJ cyP) A (fun u : NI => ((qrD a0 jch jlN jfB jhx jfB jhp jhq jgi jgj jgk jgz jfR jgl jgO jc5 jfS jiB jch cyI jdE jlN cyI u) : va_W))) A) args s 0 0 A) (F0 m 76 ls []) := by
  obtain ⟨hx, hb, hr, hts, hown, hlocks, hml, hA, hK, hNw⟩ := id C0
  intro H locs ls jmp l1 l4 hP hD hS hl hw
  refine lv_iload hx hb (qaa qkR 4 rfl) (lv_at hl 2 rfl) ?_
  refine lv_aload_n hx hb (qaa qkR 5 rfl) rfl (lv_at hl 0 rfl) ?_
  refine va_get (D := (dC, dI)) (ci := 1) (v := .ref jlN) (C := RX1) (T := TX1) (N := 4) hx hb hts qH9 hown hK hP 0 rfl rfl 1 (by decide) (hts _ qP9) (fun _ h9 => h9) rfl (qaa qkR 6 rfl) ?_
  refine lv_iload_n hx hb (qaa qkR 7 rfl) rfl (lv_at hl 1 rfl) ?_
  obtain ⟨hi9, hw⟩ := hw
  refine va_iald hx hb hK hP 3 1 rfl rfl hi9 (qaa qkR 8 rfl) ?_
  refine lv_topi (fun x12 ex12 => ?_)
  have hw := hw x12 ex12
  refine va_mmin hx hb (by rw [hml]; exact hl.1.symm) hown (hts _ q5w) (hts _ q3r) (hts _ q5F) (hts _ q2g) (nbq rfl) (nbq rfl) (nbq rfl) (nbq rfl) (qaa qkR 9 rfl) ?_
  refine lv_topi (fun x13 ex13 => ?_)
  have hw := hw x13 ex13
  exact ((W.iret (v := x13) hx hb hr (fun t ht hW => ⟨⟨x13, (jmp), rfl, hw, by rw [ht]; exact hP, va_K.moved hW.alike hK, hD⟩, hS.F ht⟩) hS.2.2 (qaa qkR 10 rfl)))
set_option maxHeartbeats 4000000 in
set_option maxRecDepth 100000 in
theorem qae4 {p : Program} {l : Launch} {e : Env} {s : State} {m : MethodId} {args : Array Value} {below : List Frame} {meth : Method} {c : Code} {A : Nat → Prop} (dC : Nat → ClassId) (dI : Nat → Nat → Nat) (cyB cyI cyJ cyP : ClassId) (a0 jfB jlN jch : Nat) (jhx jhp jhq jgi jgj jgk jgz jfR jgl jgO jfS jiB : Value) (jc5 : Int32) (jdE : NI) (Q : Int32 → NI → Prop) (C0 : cfx p s m args meth c cX1_cloverFor (some .int) wsX1_cloverFor RX1 5 A (dC, dI) (kT cyB cyI cyJ cyP)) : ∀ (n : Nat) (H : Heap) (locs : List Loc) (ls : Array Slot) (jmp : NI) (l1 l3 l4 : Int32), va_P (dC, dI) vwCl (qrD a0 jch jlN jfB jhx jfB jhp jhq jgi jgj jgk jgz jfR jgl jgO jc5 jfS jiB jch cyI jdE jlN cyI jmp) H → va_D A (qrD a0 jch jlN jfB jhx jfB jhp jhq jgi jgj jgk jgz jfR jgl jgO jc5 jfS jiB jch cyI jdE jlN cyI jmp) → va_S A s.heap H locs → lv_has ls 5 [(0, .ref a0), (1, .int l1), (3, .int l3), (4, .int l4)] → qA1 jc5 jdE Q n jmp l1 l3 l4 → W p l e (headSpec wsX1_cloverFor ({ frames := 2, cells := 0, slots := 0, locals := 55 })).room s m args below meth c H locs 0 0 (MQ below (va_Qi (fun (r : Int32) (u : NI) => Q r u) (cB (dC, dI) (kT cyB cyI cyJ cyP) A (fun u : NI => ((qrD a0 jch jlN jfB jhx jfB jhp jhq jgi jgj jgk jgz jfR jgl jgO jc5 jfS jiB jch cyI jdE jlN cyI u) : va_W))) A) args s 0 0 A) (F0 m 50 ls []) := by
  obtain ⟨hx, hb, hr, hts, hown, hlocks, hml, hA, hK, hNw⟩ := id C0
  intro n
  induction n with
  | zero => intro H locs ls jmp l1 l3 l4 hP hD hS hl hw; exact False.elim hw
  | succ n ih =>
    intro H locs ls jmp l1 l3 l4 hP hD hS hl hw
    refine lv_iload hx hb (qaa qdl 8 rfl) (lv_at hl 3 rfl) ?_
    refine lv_sipush (v := 495) hx hb (qaa qdl 9 rfl) (by decide) ?_
    refine lv_icmp_ge (tgt := 76) hx hb (qaa qdl 10 rfl) (by decide) (fun c5 => ?_) (fun c5 => ?_)
    · have hw := hw.1 c5
      exact qR1 dC dI cyB cyI cyJ cyP a0 jfB jlN jch jhx jhp jhq jgi jgj jgk jgz jfR jgl jgO jfS jiB jc5 jdE Q C0 _ _ _ jmp l1 l4 hP hD hS (lv_sub hl [0, 1, 3] rfl) hw
    · have hw := hw.2 c5
      refine lv_aload_n hx hb (qaa qdl 11 rfl) rfl (lv_at hl 0 rfl) ?_
      refine lv_iload hx hb (qaa qdl 12 rfl) (lv_at hl 3 rfl) ?_
      refine lv_iconst (v := 1) hx hb (qaa qdl 13 rfl) (by decide) ?_
      refine lv_iadd hx hb (qaa qdl 14 rfl) ?_
      refine lv_topi (fun x6 ex6 => ?_)
      have hw := hw x6 ex6
      obtain ⟨hCc, hPc, hDc, hFc⟩ := qac (ws' := (qa38 a0 jch jlN jfB jhx jfB jhp jhq jgi jgj jgk jgz jfR jgl jgO jc5 jfS jiB jlN cyI jmp)) hP hD hS hA [0, 1, 3] (by decide +kernel) rfl
      refine va_calli (va_runV (As := [.int x6]) (rest := []) ⟨hx, hb, hml, hown, hts⟩ (qaPO l dC dI cyB cyI cyJ cyP a0 jfB jlN H.size (.ref jch) (jhx) (jhp) (jhq) (jgi) (jgj) (jgk) (jgz) (jfR) (jgl) (jgO) (jfS) (jiB) jc5 jmp x6 hw) (cwV 1 hts gX1_cloverFor_X1_givenBy rfl rfl rfl (by decide +kernel) ⟨nbq rfl, nbq rfl⟩) ⟨qab, va_recv (q := (RX1, TX1, 4)) hK hPc (ci := 1) (q0 := 0) rfl rfl, qae hPc hK hDc hNw⟩ rfl rfl hl.1 rfl (lv_room (nbq rfl)) (qaa qdl 15 rfl) ⟨nbq rfl, nbq rfl⟩) hS (fun q _ h => hFc q h) hFc (fun r7 u t H1 locs ht hvm hw hB hz1 hk1 hS => ?_)
      obtain ⟨hP1, hK1, hD1⟩ := hB
      rw [ht] at hP1
      obtain ⟨hP, hD⟩ := qad (wr := [(jch, .inl (cyI, 64, .inl jdE))]) (w1 := (qa38 a0 jch jlN jfB jhx jfB jhp jhq jgi jgj jgk jgz jfR jgl jgO jc5 jfS jiB jlN cyI jmp)) (wn := (qrD a0 jch jlN jfB jhx jfB jhp jhq jgi jgj jgk jgz jfR jgl jgO jc5 jfS jiB jch cyI jdE jlN cyI jmp)) hP hD [0, 1, 3] [2] [1, 2, 0, 3] hCc rfl (by decide +kernel) (by decide +kernel) (by decide +kernel) rfl hk1 hFc hP1 hD1
      generalize H1 = H at hP hS ⊢
      refine lv_iload_n hx hb (qaa qkR 0 rfl) rfl (lv_at hl 2 rfl) ?_
      refine lv_icmp_gt (tgt := 76) hx hb (qaa qkR 1 rfl) (by decide) (fun c8 => ?_) (fun c8 => ?_)
      · have hw := hw.1 c8
        exact qR1 dC dI cyB cyI cyJ cyP a0 jfB jlN jch jhx jhp jhq jgi jgj jgk jgz jfR jgl jgO jfS jiB jc5 jdE Q C0 _ _ _ jmp l1 l4 hP hD hS (lv_sub hl [0, 1, 3] rfl) hw
      · have hw := hw.2 c8
        obtain ⟨x9, ex9⟩ : ∃ y : Int32, y = l4 + 1 := ⟨_, rfl⟩
        have hw := hw x9 ex9
        refine lv_iinc (v := x9) (lv' := [(4, .int x9), (0, .ref a0), (1, .int l1), (3, .int l3)]) hx hb (qaa qkR 2 rfl) hl (k := 3) rfl (by rw [ex9]; rfl) (by decide) rfl (fun ls hl => ?_)
        refine lv_goto (tgt := 50) hx hb (qaa qkR 3 rfl) (by decide) ?_
        exact ih _ _ _ jmp l1 l3 x9 hP hD hS (lv_sub hl [1, 2, 3, 0] rfl) hw
set_option maxHeartbeats 4000000 in
set_option maxRecDepth 100000 in
theorem qakN {p : Program} {l : Launch} {e : Env} {s : State} {m : MethodId} {args : Array Value} {below : List Frame} {meth : Method} {c : Code} {A : Nat → Prop} (dC : Nat → ClassId) (dI : Nat → Nat → Nat) (cyB cyI cyJ cyP : ClassId) (a0 jfB jlN jch : Nat) (jhx jhp jhq jgi jgj jgk jgz jfR jgl jgO jfS jiB : Value) (jc5 : Int32) (jdE : NI) (Q : Int32 → NI → Prop) (C0 : cfx p s m args meth c cX1_cloverFor (some .int) wsX1_cloverFor RX1 5 A (dC, dI) (kT cyB cyI cyJ cyP)) : ∀ (n : Nat) (H : Heap) (locs : List Loc) (ls : Array Slot) (jmp : NI) (l1 l2 l3 l4 : Int32), va_P (dC, dI) vwCl (qrD a0 jch jlN jfB jhx jfB jhp jhq jgi jgj jgk jgz jfR jgl jgO jc5 jfS jiB jch cyI jdE jlN cyI jmp) H → va_D A (qrD a0 jch jlN jfB jhx jfB jhp jhq jgi jgj jgk jgz jfR jgl jgO jc5 jfS jiB jch cyI jdE jlN cyI jmp) → va_S A s.heap H locs → lv_has ls 5 [(0, .ref a0), (1, .int l1), (2, .int l2), (3, .int l3), (4, .int l4)] → qrs jc5 jdE Q n jmp l1 l2 l3 l4 → W p l e (headSpec wsX1_cloverFor ({ frames := 2, cells := 0, slots := 0, locals := 55 })).room s m args below meth c H locs 0 0 (MQ below (va_Qi (fun (r : Int32) (u : NI) => Q r u) (cB (dC, dI) (kT cyB cyI cyJ cyP) A (fun u : NI => ((qrD a0 jch jlN jfB jhx jfB jhp jhq jgi jgj jgk jgz jfR jgl jgO jc5 jfS jiB jch cyI jdE jlN cyI u) : va_W))) A) args s 0 0 A) (F0 m 3 ls []) := by
  obtain ⟨hx, hb, hr, hts, hown, hlocks, hml, hA, hK, hNw⟩ := id C0
  intro n
  induction n with
  | zero => intro H locs ls jmp l1 l2 l3 l4 hP hD hS hl hw; exact False.elim hw
  | succ n ih =>
    intro H locs ls jmp l1 l2 l3 l4 hP hD hS hl hw
    refine lv_iload hx hb (qaa qeC 2 rfl) (lv_at hl 4 rfl) ?_
    refine lv_aload_n hx hb (qaa qeC 3 rfl) rfl (lv_at hl 0 rfl) ?_
    refine va_get (D := (dC, dI)) (ci := 1) (v := .ref jfB) (C := RX1) (T := TX1) (N := 4) hx hb hts qH9 hown hK hP 0 rfl rfl 2 (by decide) (hts _ q8V) (fun _ h9 => h9) rfl (qaa qeC 4 rfl) ?_
    refine va_get (D := (dC, dI)) (ci := 2) (v := .int jc5) (C := RX2) (T := TX2) (N := 12) hx hb hts qagj hown hK hP 1 rfl rfl 9 (by decide) (hts _ qaaK) (fun _ h9 => h9) rfl (qaa qeC 5 rfl) ?_
    refine lv_icmp_ge (tgt := 47) hx hb (qaa qeC 6 rfl) (by decide) (fun c1 => ?_) (fun c1 => ?_)
    · have hw := hw.1 c1
      refine lv_iconst (v := 0) hx hb (qaa qdl 6 rfl) (by decide) ?_
      refine lv_istore (lv' := [(4, .int 0), (0, .ref a0), (1, .int l1), (2, .int l2), (3, .int l3)]) hx hb (qaa qdl 7 rfl) hl (by decide) rfl (fun ls hl => ?_)
      obtain ⟨n9, hw⟩ := hw
      exact qae4 dC dI cyB cyI cyJ cyP a0 jfB jlN jch jhx jhp jhq jgi jgj jgk jgz jfR jgl jgO jfS jiB jc5 jdE Q C0 n9 _ _ _ jmp l1 l3 0 hP hD hS (lv_sub hl [1, 2, 4, 0] rfl) hw
    · have hw := hw.2 c1
      refine lv_aload_n hx hb (qaa qeC 7 rfl) rfl (lv_at hl 0 rfl) ?_
      refine va_get (D := (dC, dI)) (ci := 1) (v := .ref jlN) (C := RX1) (T := TX1) (N := 4) hx hb hts qH9 hown hK hP 0 rfl rfl 1 (by decide) (hts _ qP9) (fun _ h9 => h9) rfl (qaa qeC 8 rfl) ?_
      refine lv_iload hx hb (qaa qeC 9 rfl) (lv_at hl 4 rfl) ?_
      refine lv_iload_n hx hb (qaa qeC 10 rfl) rfl (lv_at hl 2 rfl) ?_
      refine lv_iload hx hb (qaa qeC 11 rfl) (lv_at hl 4 rfl) ?_
      obtain ⟨hCc, hPc, hDc, hFc⟩ := qac (ws' := []) hP hD hS hA [] (by decide +kernel) rfl
      refine va_calli (va_runSN (As := [.int l2, .int l4]) (rest := [.int l4, .ref jlN]) ⟨hx, hb, hml, hown, hts⟩ (qnt l dC dI cyB cyI cyJ cyP H.size l2 l4 hw) ⟨(va_cnB 2 hts gX1_cloverFor_X10_holds_n120 rfl rfl rfl (nw_9 hNw) (hts _ qXe) (by decide +kernel) ⟨nbq rfl, nbq rfl⟩), (hts _ qQw), trivial⟩ ⟨qab, qae hPc hK hDc hNw⟩ rfl rfl hl.1 rfl (lv_room (nbq rfl)) (qaa qeC 12 rfl) ⟨nbq rfl, nbq rfl⟩) hS (fun q _ h => hFc q h) hFc (fun r2 u t H1 locs ht hvm hw hB hz1 hk1 hS => ?_)
      obtain ⟨hP1, hK1, hD1⟩ := hB
      rw [ht] at hP1
      obtain ⟨hP, hD⟩ := qah (wr := (qrD a0 jch jlN jfB jhx jfB jhp jhq jgi jgj jgk jgz jfR jgl jgO jc5 jfS jiB jch cyI jdE jlN cyI jmp)) (w1 := []) (wn := (qrD a0 jch jlN jfB jhx jfB jhp jhq jgi jgj jgk jgz jfR jgl jgO jc5 jfS jiB jch cyI jdE jlN cyI jmp)) hP hD [] [0, 1, 2, 3] hCc rfl (by decide +kernel) (by decide +kernel) rfl hk1 hFc hP1 hD1
      generalize H1 = H at hP hS ⊢
      refine lv_if_eq (tgt := 39) hx hb (qaa qeC 13 rfl) (by decide) (fun c3 => ?_) (fun c3 => ?_)
      · have hw := hw.1 c3
        refine lv_iconst (v := 0) hx hb (qaa qdl 2 rfl) (by decide) ?_
        exact qRW dC dI cyB cyI cyJ cyP a0 jfB jlN jch jhx jhp jhq jgi jgj jgk jgz jfR jgl jgO jfS jiB jc5 jdE Q (qrs jc5 jdE Q n) ih C0 _ _ _ jmp l1 l2 l3 l4 l4 0 hP hD hS (lv_sub hl [0, 1, 2, 3, 4] rfl) hw
      · have hw := hw.2 c3
        refine lv_aload_n hx hb (qaa qeC 14 rfl) rfl (lv_at hl 0 rfl) ?_
        refine lv_iload hx hb (qaa qeC 15 rfl) (lv_at hl 4 rfl) ?_
        obtain ⟨hCc, hPc, hDc, hFc⟩ := qac (ws' := (qa8V a0 jch jlN jfB jhx jfB jhp jhq jgi jgj jgk jgz jfR jgl jgO jc5 jfS jiB jch cyI jdE)) hP hD hS hA [0, 1, 2] (by decide +kernel) rfl
        refine va_calli (va_runV (As := [.int l4]) (rest := [.int l4, .ref jlN]) ⟨hx, hb, hml, hown, hts⟩ (qai9 l dC dI cyB cyI cyJ cyP a0 jfB jch H.size (.ref jlN) (jhx) (jhp) (jhq) (jgi) (jgj) (jgk) (jgz) (jfR) (jgl) (jgO) (jfS) (jiB) jc5 jdE l4 hw) (cwV 1 hts gX1_cloverFor_X1_owed rfl rfl rfl (by decide +kernel) ⟨nbq rfl, nbq rfl⟩) ⟨qab, va_recv (q := (RX1, TX1, 4)) hK hPc (ci := 1) (q0 := 0) rfl rfl, qae hPc hK hDc hNw⟩ rfl rfl hl.1 rfl (lv_room (nbq rfl)) (qaa qdl 0 rfl) ⟨nbq rfl, nbq rfl⟩) hS (fun q _ h => hFc q h) hFc (fun r4 u t H1 locs ht hvm hw hB hz1 hk1 hS => ?_)
        obtain ⟨hP1, hK1, hD1⟩ := hB
        rw [ht] at hP1
        obtain ⟨hP, hD⟩ := qad (wr := [(jlN, .inl (cyI, 6, .inl jmp))]) (w1 := (qa8V a0 jch jlN jfB jhx jfB jhp jhq jgi jgj jgk jgz jfR jgl jgO jc5 jfS jiB jch cyI jdE)) (wn := (qrD a0 jch jlN jfB jhx jfB jhp jhq jgi jgj jgk jgz jfR jgl jgO jc5 jfS jiB jch cyI jdE jlN cyI jmp)) hP hD [0, 1, 2] [3] [1, 2, 3, 0] hCc rfl (by decide +kernel) (by decide +kernel) (by decide +kernel) rfl hk1 hFc hP1 hD1
        generalize H1 = H at hP hS ⊢
        refine lv_goto (tgt := 40) hx hb (qaa qdl 1 rfl) (by decide) ?_
        exact qRW dC dI cyB cyI cyJ cyP a0 jfB jlN jch jhx jhp jhq jgi jgj jgk jgz jfR jgl jgO jfS jiB jc5 jdE Q (qrs jc5 jdE Q n) ih C0 _ _ _ jmp l1 l2 l3 l4 l4 r4 hP hD hS (lv_sub hl [0, 1, 2, 3, 4] rfl) hw
set_option maxHeartbeats 4000000 in
set_option maxRecDepth 100000 in
theorem qaDE (l : Launch) (dC : Nat → ClassId) (dI : Nat → Nat → Nat) (cyB cyI cyJ cyP : ClassId) (a0 jfB jlN jch sz : Nat) (jhx jhp jhq jgi jgj jgk jgz jfR jgl jgO jfS jiB : Value) (jc5 : Int32) (jdE jmp : NI) (p1 p2 p3 : Int32) {Q : Int32 → NI → Prop} (hw : qPU jc5 jdE jmp p1 p2 p3 Q) : Met l yX1_cloverFor wsX1_cloverFor ({ frames := 2, cells := 0, slots := 0, locals := 55 }) (va_Pc [.ref a0, .int p1, .int p2, .int p3] (cPc (dC, dI) (kT cyB cyI cyJ cyP) (qrD a0 jch jlN jfB jhx jfB jhp jhq jgi jgj jgk jgz jfR jgl jgO jc5 jfS jiB jch cyI jdE jlN cyI jmp) sz)) (va_Qi (fun (r : Int32) (u : NI) => Q r u) (cB (dC, dI) (kT cyB cyI cyJ cyP) (va_A (qrD a0 jch jlN jfB jhx jfB jhp jhq jgi jgj jgk jgz jfR jgl jgO jc5 jfS jiB jch cyI jdE jlN cyI jmp) sz) (fun u : NI => ((qrD a0 jch jlN jfB jhx jfB jhp jhq jgi jgj jgk jgz jfR jgl jgO jc5 jfS jiB jch cyI jdE jlN cyI u) : va_W))) (va_A (qrD a0 jch jlN jfB jhx jfB jhp jhq jgi jgj jgk jgz jfR jgl jgO jc5 jfS jiB jch cyI jdE jlN cyI jmp) sz)) 0 0 (va_A (qrD a0 jch jlN jfB jhx jfB jhp jhq jgi jgj jgk jgz jfR jgl jgO jc5 jfS jiB jch cyI jdE jlN cyI jmp) sz) := by
  refine Met.ofW (cc := cX1_cloverFor) (maxL := 5) (ret := (some .int)) (by decide) rfl ?_
  intro p e s m args below meth c s₁ B hml hv
  obtain ⟨rfl, hsz, hP, hK, hD0, hNw⟩ := hv
  have hx := B.exec
  have hb := B.bytes
  have hr := B.returns
  have hts := atoms_spec (ws := wsX1_cloverFor) B.pre
  have hown : s.vm.findClass RX1 = some m.cls := findClass_of_methodNamed B.named
  have hlocks := B.notSynchronized
  subst hsz
  have hD := hD0.self (sz := s.heap.size)
  generalize hAe : va_A (qrD a0 jch jlN jfB jhx jfB jhp jhq jgi jgj jgk jgz jfR jgl jgO jc5 jfS jiB jch cyI jdE jlN cyI jmp) s.heap.size = A at hD ⊢
  have hA : ∀ q : Nat, s.heap.size ≤ q → A q := fun q h => by rw [← hAe]; exact Or.inr h
  have hS : va_S A s.heap s.heap [] := va_S.rf
  have hP : va_P (dC, dI) vwCl (qrD a0 jch jlN jfB jhx jfB jhp jhq jgi jgj jgk jgz jfR jgl jgO jc5 jfS jiB jch cyI jdE jlN cyI jmp) s.heap := hP
  have hl := lv_entry ([.ref a0, .int p1, .int p2, .int p3]) (n := 5) (nbq rfl)
  rw [lg_entry_eq]
  generalize (lg_sl ([.ref a0, .int p1, .int p2, .int p3]) ++ List.replicate (5 - (lg_sl ([.ref a0, .int p1, .int p2, .int p3])).length) Slot.unset).toArray = ls at hl ⊢
  have hl : lv_has ls 5 [(0, .ref a0), (1, .int p1), (2, .int p2), (3, .int p3)] := hl
  have C0 : cfx p s m _ meth c cX1_cloverFor (some .int) wsX1_cloverFor RX1 5 A (dC, dI) (kT cyB cyI cyJ cyP) := ⟨hx, hb, hr, hts, hown, hlocks, hml, hA, hK, hNw⟩
  clear hAe
  obtain ⟨H, hH⟩ : ∃ H, H = s.heap := ⟨_, rfl⟩
  rw [← hH] at hP ⊢
  have hS : va_S A s.heap H [] := by rw [hH]; exact va_S.rf
  have hS := hS
  refine lv_iconst (v := 0) hx hb (qaa qeC 0 rfl) (by decide) ?_
  refine lv_istore (lv' := [(4, .int 0), (0, .ref a0), (1, .int p1), (2, .int p2), (3, .int p3)]) hx hb (qaa qeC 1 rfl) hl (by decide) rfl (fun ls hl => ?_)
  obtain ⟨n9, hw⟩ := hw
  exact qakN dC dI cyB cyI cyJ cyP a0 jfB jlN jch jhx jhp jhq jgi jgj jgk jgz jfR jgl jgO jfS jiB jc5 jdE Q C0 n9 _ _ _ jmp p1 p2 p3 0 hP hD hS (lv_sub hl [1, 2, 3, 4, 0] rfl) hw
theorem qVx : ∀ w ∈ u_ws RX10 TX10 19, w ∈ wsX10_clover := uiM qrr qyE (by decide +kernel)
theorem qauR : ∀ w ∈ u_ws RX2 TX2 12, w ∈ wsX10_clover := uiM qrr qLg (by decide +kernel)
theorem qagt : (.fieldLink RX10 141 "MarchHares$Down" "hares" "I" : Cond) ∈ wsX10_clover := qrr 644 (by decide +kernel)
theorem qanM : (.fieldLink RX10 19 "MarchHares" "ground" "LMarchHares$Down;" : Cond) ∈ wsX10_clover := qrr 20 (by decide +kernel)
theorem qamd : (.fieldLink RX10 58 "MarchHares" "now" "LMarchHares$Days;" : Cond) ∈ wsX10_clover := qrr 79 (by decide +kernel)
set_option maxHeartbeats 4000000 in
set_option maxRecDepth 100000 in
theorem qaQs (l : Launch) (dC : Nat → ClassId) (dI : Nat → Nat → Nat) (cyB cyI cyJ cyP : ClassId) (a0 jaR jaT jbb jlO sz : Nat) (jaK ja1 jcp jbc jbV ja3 jbH jbO jaq jac jbI jbl jbn jba jaa jcB jcC jbo jbp jbk jbj jbe jbq jef jbi jcd jfc : Value) (jbm : Int32) (jbQ : NI) (jdu jbz : Int32) (jmY : NI) (p1 p2 p3 : Int32) {E : String → Int32 → Int32 → NI → Prop} {Q : Int32 → Int32 → Int32 → NI → Prop} (hw : qXM jbm jbQ jdu jbz jmY p1 p2 p3 E Q) : vx_Met l yX10_clover wsX10_clover ({ frames := 8, cells := 3, slots := 18, locals := 164 }) (va_Pc [.ref a0, .int p1, .int p2, .int p3] (cPx l (dC, dI) (kT cyB cyI cyJ cyP) (qwh a0 jaK jaR ja1 jcp jbc jbV ja3 jbH jaT jbO jaq jac jbI jbl jbn jba jaa jdu jbz jaR jcB jcC jbo jbp jbk jbj jbe jbq jef jbm jbi jcd jaT jbb jlO jaR jfc jbb cyI jbQ jlO cyI jmY) sz)) (va_Qi (fun (r : Int32) (u : Int32 × Int32 × NI) => Q r u.1 u.2.1 u.2.2) (cB (dC, dI) (kT cyB cyI cyJ cyP) (va_A (qwh a0 jaK jaR ja1 jcp jbc jbV ja3 jbH jaT jbO jaq jac jbI jbl jbn jba jaa jdu jbz jaR jcB jcC jbo jbp jbk jbj jbe jbq jef jbm jbi jcd jaT jbb jlO jaR jfc jbb cyI jbQ jlO cyI jmY) sz) (fun u : Int32 × Int32 × NI => ((qwh a0 jaK jaR ja1 jcp jbc jbV ja3 jbH jaT jbO jaq jac jbI jbl jbn jba jaa u.1 u.2.1 jaR jcB jcC jbo jbp jbk jbj jbe jbq jef jbm jbi jcd jaT jbb jlO jaR jfc jbb cyI jbQ jlO cyI u.2.2) : va_W))) (va_A (qwh a0 jaK jaR ja1 jcp jbc jbV ja3 jbH jaT jbO jaq jac jbI jbl jbn jba jaa jdu jbz jaR jcB jcC jbo jbp jbk jbj jbe jbq jef jbm jbi jcd jaT jbb jlO jaR jfc jbb cyI jbQ jlO cyI jmY) sz)) (vx_X (fun _ => True) (fun (en : String) (u : Int32 × Int32 × NI) (t : State) => E en u.1 u.2.1 u.2.2 ∧ cB (dC, dI) (kT cyB cyI cyJ cyP) (va_A (qwh a0 jaK jaR ja1 jcp jbc jbV ja3 jbH jaT jbO jaq jac jbI jbl jbn jba jaa jdu jbz jaR jcB jcC jbo jbp jbk jbj jbe jbq jef jbm jbi jcd jaT jbb jlO jaR jfc jbb cyI jbQ jlO cyI jmY) sz) (fun u : Int32 × Int32 × NI => ((qwh a0 jaK jaR ja1 jcp jbc jbV ja3 jbH jaT jbO jaq jac jbI jbl jbn jba jaa u.1 u.2.1 jaR jcB jcC jbo jbp jbk jbj jbe jbq jef jbm jbi jcd jaT jbb jlO jaR jfc jbb cyI jbQ jlO cyI u.2.2) : va_W)) u t) (va_A (qwh a0 jaK jaR ja1 jcp jbc jbV ja3 jbH jaT jbO jaq jac jbI jbl jbn jba jaa jdu jbz jaR jcB jcC jbo jbp jbk jbj jbe jbq jef jbm jbi jcd jaT jbb jlO jaR jfc jbb cyI jbQ jlO cyI jmY) sz)) 3 18 (va_A (qwh a0 jaK jaR ja1 jcp jbc jbV ja3 jbH jaT jbO jaq jac jbI jbl jbn jba jaa jdu jbz jaR jcB jcC jbo jbp jbk jbj jbe jbq jef jbm jbi jcd jaT jbb jlO jaR jfc jbb cyI jbQ jlO cyI jmY) sz) := by
  refine vx_ofW (cc := cX10_clover) (maxL := 4) (ret := (some .int)) (by decide) rfl ?_
  intro p e s m args below meth c s₁ B hml hnt hv
  obtain ⟨rfl, hsz, hP, hK, hD0, hNw, hXl, hXu, hXn, hXt⟩ := hv
  have hx := B.exec
  have hb := B.bytes
  have hr := B.returns
  have hts := atoms_spec (ws := wsX10_clover) B.pre
  have hown : s.vm.findClass RX10 = some m.cls := findClass_of_methodNamed B.named
  have hlocks := B.notSynchronized
  subst hsz
  have hD := hD0.self (sz := s.heap.size)
  generalize hAe : va_A (qwh a0 jaK jaR ja1 jcp jbc jbV ja3 jbH jaT jbO jaq jac jbI jbl jbn jba jaa jdu jbz jaR jcB jcC jbo jbp jbk jbj jbe jbq jef jbm jbi jcd jaT jbb jlO jaR jfc jbb cyI jbQ jlO cyI jmY) s.heap.size = A at hD hXu hXn ⊢
  have hA : ∀ q : Nat, s.heap.size ≤ q → A q := fun q h => by rw [← hAe]; exact Or.inr h
  have hS : va_S A s.heap s.heap [] := va_S.rf
  have hP : va_P (dC, dI) vwCl (qwh a0 jaK jaR ja1 jcp jbc jbV ja3 jbH jaT jbO jaq jac jbI jbl jbn jba jaa jdu jbz jaR jcB jcC jbo jbp jbk jbj jbe jbq jef jbm jbi jcd jaT jbb jlO jaR jfc jbb cyI jbQ jlO cyI jmY) s.heap := hP
  have hl := lv_entry ([.ref a0, .int p1, .int p2, .int p3]) (n := 4) (nbq rfl)
  rw [lg_entry_eq]
  generalize (lg_sl ([.ref a0, .int p1, .int p2, .int p3]) ++ List.replicate (4 - (lg_sl ([.ref a0, .int p1, .int p2, .int p3])).length) Slot.unset).toArray = ls at hl ⊢
  have hl : lv_has ls 4 [(0, .ref a0), (1, .int p1), (2, .int p2), (3, .int p3)] := hl
  have hY : cfY l s A := ⟨hXl, hXu, hXn, hXt⟩
  have hXs : cfX l s c A := ⟨hnt, hY⟩
  have C0 : cfx p s m _ meth c cX10_clover (some .int) wsX10_clover RX10 4 A (dC, dI) (kT cyB cyI cyJ cyP) ∧ cfX l s c A := ⟨⟨hx, hb, hr, hts, hown, hlocks, hml, hA, hK, hNw⟩, hXs⟩
  clear hAe
  obtain ⟨H, hH⟩ : ∃ H, H = s.heap := ⟨_, rfl⟩
  rw [← hH] at hP ⊢
  have hS : va_S A s.heap H [] := by rw [hH]; exact va_S.rf
  have hS := hS
  refine lv_aload_n hx hb (qaa qhj 0 rfl) rfl (lv_at hl 0 rfl) ?_
  refine lv_iload_n hx hb (qaa qhj 1 rfl) rfl (lv_at hl 1 rfl) ?_
  obtain ⟨hCc, hPc, hDc, hFc⟩ := qac (ws' := (qaWg a0 jaK jaR ja1 jcp jbc jbV ja3 jbH jaT jbO jaq jac jbI jbl jbn jba jaa jdu jbz jaR jcB jcC jbo jbp jbk jbj jbe jbq jef jbm jbi jcd)) hP hD hS hA [0, 1] (by decide +kernel) rfl
  refine vx_callv (vx_runV (As := [.int p1]) (rest := []) ⟨hx, hb, hml, hown, hts⟩ (qqH l dC dI cyB cyI cyJ cyP a0 jaR H.size (jaK) (ja1) (jcp) (jbc) (jbV) (ja3) (jbH) (.ref jaT) (jbO) (jaq) (jac) (jbI) (jbl) (jbn) (jba) (jaa) (.int jbz) (jcB) (jcC) (jbo) (jbp) (jbk) (jbj) (jbe) (jbq) (jef) (jbi) (jcd) jbm jdu p1 hw) (cwV 1 hts gX10_clover_X10_needHare rfl rfl rfl (by decide +kernel) ⟨nbq rfl, nbq rfl⟩) ⟨qau, va_recv (q := (RX10, TX10, 19)) hK hPc (ci := 10) (q0 := 0) rfl rfl, qbk hPc hK hDc hNw hY hS hFc⟩ rfl rfl hl.1 rfl (lv_room (nbq rfl)) (qaa qhj 2 rfl) ⟨nbq rfl, nbq rfl⟩) hS (fun q _ h => hFc q h) hFc (fun q _ h => hFc q h) (fun en ce q9 u t H1 locs ht hvm hpx hB hz1 hk1 hS hc9 hv9 hcl9 => ?_) (fun u t H1 locs ht hvm hw hB hz1 hk1 hS => ?_)
  · obtain ⟨x1, rfl⟩ : ∃ z, z = u := ⟨_, rfl⟩
    obtain ⟨hw, hP1, hK1, hD1⟩ := hB
    rw [ht] at hP1
    obtain ⟨hP, hD⟩ := qad (wr := (qa6l jaT jbb jlO jaR jfc jbb cyI jbQ jlO cyI jmY)) (w1 := (qaWg a0 jaK jaR ja1 jcp jbc jbV ja3 jbH jaT jbO jaq jac jbI jbl jbn jba jaa x1 jbz jaR jcB jcC jbo jbp jbk jbj jbe jbq jef jbm jbi jcd)) (wn := (qwh a0 jaK jaR ja1 jcp jbc jbV ja3 jbH jaT jbO jaq jac jbI jbl jbn jba jaa x1 jbz jaR jcB jcC jbo jbp jbk jbj jbe jbq jef jbm jbi jcd jaT jbb jlO jaR jfc jbb cyI jbQ jlO cyI jmY)) hP hD [0, 1] [2, 3, 4] [3, 4, 0, 1, 2] hCc rfl (by decide +kernel) (by decide +kernel) (by decide +kernel) rfl hk1 hFc hP1 hD1
    generalize H1 = H at hP hS hc9 ⊢
    exact vx_out (fun x hx9 => (hXs.1 x hx9).elim) hlocks hc9 hv9 hcl9 (fun t2 ht2 hal2 => ⟨(x1, jbz, jmY), trivial, ⟨hw, by rw [ht2]; exact hP, va_K.moved hal2 hK, hD⟩, hS.F ht2⟩) hS.2.2 (nbq rfl) (nbq rfl)
  obtain ⟨x1, rfl⟩ : ∃ z, z = u := ⟨_, rfl⟩
  obtain ⟨hP1, hK1, hD1⟩ := hB
  rw [ht] at hP1
  obtain ⟨hP, hD⟩ := qad (wr := (qa6l jaT jbb jlO jaR jfc jbb cyI jbQ jlO cyI jmY)) (w1 := (qaWg a0 jaK jaR ja1 jcp jbc jbV ja3 jbH jaT jbO jaq jac jbI jbl jbn jba jaa x1 jbz jaR jcB jcC jbo jbp jbk jbj jbe jbq jef jbm jbi jcd)) (wn := (qwh a0 jaK jaR ja1 jcp jbc jbV ja3 jbH jaT jbO jaq jac jbI jbl jbn jba jaa x1 jbz jaR jcB jcC jbo jbp jbk jbj jbe jbq jef jbm jbi jcd jaT jbb jlO jaR jfc jbb cyI jbQ jlO cyI jmY)) hP hD [0, 1] [2, 3, 4] [3, 4, 0, 1, 2] hCc rfl (by decide +kernel) (by decide +kernel) (by decide +kernel) rfl hk1 hFc hP1 hD1
  generalize H1 = H at hP hS ⊢
  refine lv_aload_n hx hb (qaa qhj 3 rfl) rfl (lv_at hl 0 rfl) ?_
  refine lv_iload_n hx hb (qaa qhj 4 rfl) rfl (lv_at hl 2 rfl) ?_
  refine lv_iconst (v := 0) hx hb (qaa qhj 5 rfl) (by decide) ?_
  refine lv_iconst (v := 1) hx hb (qaa qhj 6 rfl) (by decide) ?_
  refine lv_aload_n hx hb (qaa qhj 7 rfl) rfl (lv_at hl 0 rfl) ?_
  refine va_get (D := (dC, dI)) (ci := 10) (v := .ref jaR) (C := RX10) (T := TX10) (N := 19) hx hb hts qVx hown hK hP 0 rfl rfl 1 (by decide) (hts _ qanM) (fun _ h9 => h9) rfl (qaa qhj 8 rfl) ?_
  refine va_get (D := (dC, dI)) (ci := 2) (v := .int jbm) (C := RX2) (T := TX2) (N := 12) hx hb hts qauR hown hK hP 1 rfl rfl 9 (by decide) (hts _ qagt) (fun _ h9 => h9) rfl (qaa qhj 9 rfl) ?_
  refine lv_ishl hx hb (qaa qhj 10 rfl) ?_
  refine lv_iconst (v := 1) hx hb (qaa qhj 11 rfl) (by decide) ?_
  refine lv_isub hx hb (qaa qhj 12 rfl) ?_
  obtain ⟨hCc, hPc, hDc, hFc⟩ := qac (ws' := (q9T a0 jaK jaR ja1 jcp jbc jbV ja3 jbH jaT jbO jaq jac jbI jbl jbn jba jaa x1 jbz)) hP hD hS hA [0] (by decide +kernel) rfl
  refine vx_callv (vx_runV (As := [.int p2, .int 0, .int ((1 <<< (jbm &&& 31)) - 1)]) (rest := []) ⟨hx, hb, hml, hown, hts⟩ (qaV l dC dI cyB cyI cyJ cyP a0 H.size (jaK) (.ref jaR) (ja1) (jcp) (jbc) (jbV) (ja3) (jbH) (.ref jaT) (jbO) (jaq) (jac) (jbI) (jbl) (jbn) (jba) (jaa) (.int x1) jbz p2 0 ((1 <<< (jbm &&& 31)) - 1) hw) (cwV 3 hts gX10_clover_X10_needWithin rfl rfl rfl (by decide +kernel) ⟨nbq rfl, nbq rfl⟩) ⟨qau, va_recv (q := (RX10, TX10, 19)) hK hPc (ci := 10) (q0 := 0) rfl rfl, qbk hPc hK hDc hNw hY hS hFc⟩ rfl rfl hl.1 rfl (lv_room (nbq rfl)) (qaa qhj 13 rfl) ⟨nbq rfl, nbq rfl⟩) hS (fun q _ h => hFc q h) hFc (fun q _ h => hFc q h) (fun en ce q9 u t H1 locs ht hvm hpx hB hz1 hk1 hS hc9 hv9 hcl9 => ?_) (fun u t H1 locs ht hvm hw hB hz1 hk1 hS => ?_)
  · obtain ⟨x2, rfl⟩ : ∃ z, z = u := ⟨_, rfl⟩
    obtain ⟨hw, hP1, hK1, hD1⟩ := hB
    rw [ht] at hP1
    obtain ⟨hP, hD⟩ := qad (wr := (qaNa jaR jcB jcC jbo jbp jbk jbj jbe jbq jef jbm jbi jcd jaT jbb jlO jaR jfc jbb cyI jbQ jlO cyI jmY)) (w1 := (q9T a0 jaK jaR ja1 jcp jbc jbV ja3 jbH jaT jbO jaq jac jbI jbl jbn jba jaa x1 x2)) (wn := (qwh a0 jaK jaR ja1 jcp jbc jbV ja3 jbH jaT jbO jaq jac jbI jbl jbn jba jaa x1 x2 jaR jcB jcC jbo jbp jbk jbj jbe jbq jef jbm jbi jcd jaT jbb jlO jaR jfc jbb cyI jbQ jlO cyI jmY)) hP hD [0] [1, 2, 3, 4] [4, 0, 1, 2, 3] hCc rfl (by decide +kernel) (by decide +kernel) (by decide +kernel) rfl hk1 hFc hP1 hD1
    generalize H1 = H at hP hS hc9 ⊢
    exact vx_out (fun x hx9 => (hXs.1 x hx9).elim) hlocks hc9 hv9 hcl9 (fun t2 ht2 hal2 => ⟨(x1, x2, jmY), trivial, ⟨hw, by rw [ht2]; exact hP, va_K.moved hal2 hK, hD⟩, hS.F ht2⟩) hS.2.2 (nbq rfl) (nbq rfl)
  obtain ⟨x2, rfl⟩ : ∃ z, z = u := ⟨_, rfl⟩
  obtain ⟨hP1, hK1, hD1⟩ := hB
  rw [ht] at hP1
  obtain ⟨hP, hD⟩ := qad (wr := (qaNa jaR jcB jcC jbo jbp jbk jbj jbe jbq jef jbm jbi jcd jaT jbb jlO jaR jfc jbb cyI jbQ jlO cyI jmY)) (w1 := (q9T a0 jaK jaR ja1 jcp jbc jbV ja3 jbH jaT jbO jaq jac jbI jbl jbn jba jaa x1 x2)) (wn := (qwh a0 jaK jaR ja1 jcp jbc jbV ja3 jbH jaT jbO jaq jac jbI jbl jbn jba jaa x1 x2 jaR jcB jcC jbo jbp jbk jbj jbe jbq jef jbm jbi jcd jaT jbb jlO jaR jfc jbb cyI jbQ jlO cyI jmY)) hP hD [0] [1, 2, 3, 4] [4, 0, 1, 2, 3] hCc rfl (by decide +kernel) (by decide +kernel) (by decide +kernel) rfl hk1 hFc hP1 hD1
  generalize H1 = H at hP hS ⊢
  refine lv_aload_n hx hb (qaa qhj 14 rfl) rfl (lv_at hl 0 rfl) ?_
  refine lv_iload_n hx hb (qaa qhj 15 rfl) rfl (lv_at hl 3 rfl) ?_
  refine lv_iconst (v := 0) hx hb (qaa qeR 0 rfl) (by decide) ?_
  refine lv_sipush (v := 999) hx hb (qaa qeR 1 rfl) (by decide) ?_
  obtain ⟨hCc, hPc, hDc, hFc⟩ := qac (ws' := (q9T a0 jaK jaR ja1 jcp jbc jbV ja3 jbH jaT jbO jaq jac jbI jbl jbn jba jaa x1 x2)) hP hD hS hA [0] (by decide +kernel) rfl
  refine vx_callv (vx_runV (As := [.int p3, .int 0, .int 999]) (rest := []) ⟨hx, hb, hml, hown, hts⟩ (qaV l dC dI cyB cyI cyJ cyP a0 H.size (jaK) (.ref jaR) (ja1) (jcp) (jbc) (jbV) (ja3) (jbH) (.ref jaT) (jbO) (jaq) (jac) (jbI) (jbl) (jbn) (jba) (jaa) (.int x1) x2 p3 0 999 hw) (cwV 3 hts gX10_clover_X10_needWithin rfl rfl rfl (by decide +kernel) ⟨nbq rfl, nbq rfl⟩) ⟨qau, va_recv (q := (RX10, TX10, 19)) hK hPc (ci := 10) (q0 := 0) rfl rfl, qbk hPc hK hDc hNw hY hS hFc⟩ rfl rfl hl.1 rfl (lv_room (nbq rfl)) (qaa qeR 2 rfl) ⟨nbq rfl, nbq rfl⟩) hS (fun q _ h => hFc q h) hFc (fun q _ h => hFc q h) (fun en ce q9 u t H1 locs ht hvm hpx hB hz1 hk1 hS hc9 hv9 hcl9 => ?_) (fun u t H1 locs ht hvm hw hB hz1 hk1 hS => ?_)
  · obtain ⟨x3, rfl⟩ : ∃ z, z = u := ⟨_, rfl⟩
    obtain ⟨hw, hP1, hK1, hD1⟩ := hB
    rw [ht] at hP1
    obtain ⟨hP, hD⟩ := qad (wr := (qaNa jaR jcB jcC jbo jbp jbk jbj jbe jbq jef jbm jbi jcd jaT jbb jlO jaR jfc jbb cyI jbQ jlO cyI jmY)) (w1 := (q9T a0 jaK jaR ja1 jcp jbc jbV ja3 jbH jaT jbO jaq jac jbI jbl jbn jba jaa x1 x3)) (wn := (qwh a0 jaK jaR ja1 jcp jbc jbV ja3 jbH jaT jbO jaq jac jbI jbl jbn jba jaa x1 x3 jaR jcB jcC jbo jbp jbk jbj jbe jbq jef jbm jbi jcd jaT jbb jlO jaR jfc jbb cyI jbQ jlO cyI jmY)) hP hD [0] [1, 2, 3, 4] [4, 0, 1, 2, 3] hCc rfl (by decide +kernel) (by decide +kernel) (by decide +kernel) rfl hk1 hFc hP1 hD1
    generalize H1 = H at hP hS hc9 ⊢
    exact vx_out (fun x hx9 => (hXs.1 x hx9).elim) hlocks hc9 hv9 hcl9 (fun t2 ht2 hal2 => ⟨(x1, x3, jmY), trivial, ⟨hw, by rw [ht2]; exact hP, va_K.moved hal2 hK, hD⟩, hS.F ht2⟩) hS.2.2 (nbq rfl) (nbq rfl)
  obtain ⟨x3, rfl⟩ : ∃ z, z = u := ⟨_, rfl⟩
  obtain ⟨hP1, hK1, hD1⟩ := hB
  rw [ht] at hP1
  obtain ⟨hP, hD⟩ := qad (wr := (qaNa jaR jcB jcC jbo jbp jbk jbj jbe jbq jef jbm jbi jcd jaT jbb jlO jaR jfc jbb cyI jbQ jlO cyI jmY)) (w1 := (q9T a0 jaK jaR ja1 jcp jbc jbV ja3 jbH jaT jbO jaq jac jbI jbl jbn jba jaa x1 x3)) (wn := (qwh a0 jaK jaR ja1 jcp jbc jbV ja3 jbH jaT jbO jaq jac jbI jbl jbn jba jaa x1 x3 jaR jcB jcC jbo jbp jbk jbj jbe jbq jef jbm jbi jcd jaT jbb jlO jaR jfc jbb cyI jbQ jlO cyI jmY)) hP hD [0] [1, 2, 3, 4] [4, 0, 1, 2, 3] hCc rfl (by decide +kernel) (by decide +kernel) (by decide +kernel) rfl hk1 hFc hP1 hD1
  generalize H1 = H at hP hS ⊢
  refine lv_iload_n hx hb (qaa qeR 3 rfl) rfl (lv_at hl 2 rfl) ?_
  refine lv_iload_n hx hb (qaa qeR 4 rfl) rfl (lv_at hl 1 rfl) ?_
  obtain ⟨hCc, hPc, hDc, hFc⟩ := qac (ws' := []) hP hD hS hA [] (by decide +kernel) rfl
  refine va_calli (va_runS (As := [.int p2, .int p1]) (rest := []) ⟨hx, hb, hml, hown, hts⟩ (qnt l dC dI cyB cyI cyJ cyP H.size p2 p1 hw) (va_cwS 2 hts gX10_clover_X10_holds rfl rfl rfl (by decide +kernel) ⟨nbq rfl, nbq rfl⟩) ⟨qab, qae hPc hK hDc hNw⟩ rfl rfl hl.1 rfl (lv_room (nbq rfl)) (qaa qeR 5 rfl) ⟨nbq rfl, nbq rfl⟩) hS (fun q _ h => hFc q h) hFc (fun r4 u t H1 locs ht hvm hw hB hz1 hk1 hS => ?_)
  obtain ⟨hP1, hK1, hD1⟩ := hB
  rw [ht] at hP1
  obtain ⟨hP, hD⟩ := qah (wr := (qwh a0 jaK jaR ja1 jcp jbc jbV ja3 jbH jaT jbO jaq jac jbI jbl jbn jba jaa x1 x3 jaR jcB jcC jbo jbp jbk jbj jbe jbq jef jbm jbi jcd jaT jbb jlO jaR jfc jbb cyI jbQ jlO cyI jmY)) (w1 := []) (wn := (qwh a0 jaK jaR ja1 jcp jbc jbV ja3 jbH jaT jbO jaq jac jbI jbl jbn jba jaa x1 x3 jaR jcB jcC jbo jbp jbk jbj jbe jbq jef jbm jbi jcd jaT jbb jlO jaR jfc jbb cyI jbQ jlO cyI jmY)) hP hD [] [0, 1, 2, 3, 4] hCc rfl (by decide +kernel) (by decide +kernel) rfl hk1 hFc hP1 hD1
  generalize H1 = H at hP hS ⊢
  refine lv_if_eq (tgt := 52) hx hb (qaa qeR 6 rfl) (by decide) (fun c5 => ?_) (fun c5 => ?_)
  · have hw := hw.1 c5
    refine lv_iconst (v := 0) hx hb (qaa qeR 14 rfl) (by decide) ?_
    exact vx_ret (W.widen (k := 3) (n := 18) (nbq rfl) (nbq rfl) (W.iret (v := 0) hx hb hr (fun t ht hW => ⟨⟨0, (x1, x3, jmY), rfl, hw, by rw [ht]; exact hP, va_K.moved hW.alike hK, hD⟩, hS.F ht⟩) hS.2.2 (qaa qeR 15 rfl)))
  · have hw := hw.2 c5
    refine lv_aload_n hx hb (qaa qeR 7 rfl) rfl (lv_at hl 0 rfl) ?_
    refine va_get (D := (dC, dI)) (ci := 10) (v := .ref jaT) (C := RX10) (T := TX10) (N := 19) hx hb hts qVx hown hK hP 0 rfl rfl 8 (by decide) (hts _ qamd) (fun _ h9 => h9) rfl (qaa qeR 8 rfl) ?_
    refine lv_iload_n hx hb (qaa qeR 9 rfl) rfl (lv_at hl 1 rfl) ?_
    refine lv_iload_n hx hb (qaa qeR 10 rfl) rfl (lv_at hl 2 rfl) ?_
    refine lv_iload_n hx hb (qaa qeR 11 rfl) rfl (lv_at hl 3 rfl) ?_
    obtain ⟨hCc, hPc, hDc, hFc⟩ := qac (ws' := (qrD jaT jbb jlO jaR jfc jaR jcB jcC jbo jbp jbk jbj jbe jbq jef jbm jbi jcd jbb cyI jbQ jlO cyI jmY)) hP hD hS hA [2, 1, 3, 4] (by decide +kernel) rfl
    refine va_calli (va_runV (As := [.int p1, .int p2, .int p3]) (rest := []) ⟨hx, hb, hml, hown, hts⟩ (qaDE l dC dI cyB cyI cyJ cyP jaT jaR jlO jbb H.size (jfc) (jcB) (jcC) (jbo) (jbp) (jbk) (jbj) (jbe) (jbq) (jef) (jbi) (jcd) jbm jbQ jmY p1 p2 p3 hw) (cwV 3 hts gX10_clover_X1_cloverFor rfl rfl rfl (by decide +kernel) ⟨nbq rfl, nbq rfl⟩) ⟨qab, va_recv (q := (RX1, TX1, 4)) hK hPc (ci := 1) (q0 := 0) rfl rfl, qae hPc hK hDc hNw⟩ rfl rfl hl.1 rfl (lv_room (nbq rfl)) (qaa qeR 12 rfl) ⟨nbq rfl, nbq rfl⟩) hS (fun q _ h => hFc q h) hFc (fun r7 u t H1 locs ht hvm hw hB hz1 hk1 hS => ?_)
    obtain ⟨f6, rfl⟩ : ∃ z, z = u := ⟨_, rfl⟩
    obtain ⟨hP1, hK1, hD1⟩ := hB
    rw [ht] at hP1
    obtain ⟨hP, hD⟩ := qad (wr := (q9T a0 jaK jaR ja1 jcp jbc jbV ja3 jbH jaT jbO jaq jac jbI jbl jbn jba jaa x1 x3)) (w1 := (qrD jaT jbb jlO jaR jfc jaR jcB jcC jbo jbp jbk jbj jbe jbq jef jbm jbi jcd jbb cyI jbQ jlO cyI f6)) (wn := (qwh a0 jaK jaR ja1 jcp jbc jbV ja3 jbH jaT jbO jaq jac jbI jbl jbn jba jaa x1 x3 jaR jcB jcC jbo jbp jbk jbj jbe jbq jef jbm jbi jcd jaT jbb jlO jaR jfc jbb cyI jbQ jlO cyI f6)) hP hD [2, 1, 3, 4] [0] [0, 2, 1, 3, 4] hCc rfl (by decide +kernel) (by decide +kernel) (by decide +kernel) rfl hk1 hFc hP1 hD1
    generalize H1 = H at hP hS ⊢
    refine lv_goto (tgt := 53) hx hb (qaa qeR 13 rfl) (by decide) ?_
    exact vx_ret (W.widen (k := 3) (n := 18) (nbq rfl) (nbq rfl) (W.iret (v := r7) hx hb hr (fun t ht hW => ⟨⟨r7, (x1, x3, f6), rfl, hw, by rw [ht]; exact hP, va_K.moved hW.alike hK, hD⟩, hS.F ht⟩) hS.2.2 (qaa qeR 15 rfl)))
theorem qauH : (.classLink RL 13 "java/lang/IllegalArgumentException" : Cond) ∈ wsL_clover := qVC 595 (by decide +kernel)
theorem qYM : (.classLink RL 31 "java/util/NoSuchElementException" : Cond) ∈ wsL_clover := qVC 2639 (by decide +kernel)
theorem qaGQ : (.codeWith yL_clover cL_clover 6 (some .int) [(0, 12, 15, 31), (0, 12, 19, 13)] : Cond) ∈ wsL_clover := qVC 3799 (by decide +kernel)
set_option maxHeartbeats 4000000 in
set_option maxRecDepth 100000 in
theorem qaXY (l : Launch) (dC : Nat → ClassId) (dI : Nat → Nat → Nat) (cyB cyI cyJ cyP : ClassId) (a0 a4 jaR jaT jbb jlO sz : Nat) (jaK ja1 jcp jbc jbV ja3 jbH jbO jaq jac jbI jbl jbn jba jaa jcB jcC jbo jbp jbk jbj jbe jbq jef jbi jcd jfc : Value) (n4 : Nat) (jbm : Int32) (jbQ : NI) (jdu jbz : Int32) (jmY : NI) (f4 : Nat → Int64) (p1 p2 p3 : Int32) {Q : Int32 → Int32 → Int32 → NI → (Nat → Int64) → Prop} (hw : qaDV n4 jbm jbQ jdu jbz jmY f4 p1 p2 p3 Q) : Met l yL_clover wsL_clover ({ frames := 9, cells := 3, slots := 18, locals := 187 }) (va_Pc [.ref a0, .int p1, .int p2, .int p3, .ref a4] (cPx l (dC, dI) (kT cyB cyI cyJ cyP) (qM0 a0 jaK jaR ja1 jcp jbc jbV ja3 jbH jaT jbO jaq jac jbI jbl jbn jba jaa jdu jbz jaR jcB jcC jbo jbp jbk jbj jbe jbq jef jbm jbi jcd jaT jbb jlO jaR jfc jbb cyI jbQ jlO cyI jmY a4 cyJ n4 f4) sz)) (va_Qi (fun (r : Int32) (u : Int32 × Int32 × NI × (Nat → Int64)) => Q r u.1 u.2.1 u.2.2.1 u.2.2.2) (cB (dC, dI) (kT cyB cyI cyJ cyP) (va_A (qM0 a0 jaK jaR ja1 jcp jbc jbV ja3 jbH jaT jbO jaq jac jbI jbl jbn jba jaa jdu jbz jaR jcB jcC jbo jbp jbk jbj jbe jbq jef jbm jbi jcd jaT jbb jlO jaR jfc jbb cyI jbQ jlO cyI jmY a4 cyJ n4 f4) sz) (fun u : Int32 × Int32 × NI × (Nat → Int64) => ((qM0 a0 jaK jaR ja1 jcp jbc jbV ja3 jbH jaT jbO jaq jac jbI jbl jbn jba jaa u.1 u.2.1 jaR jcB jcC jbo jbp jbk jbj jbe jbq jef jbm jbi jcd jaT jbb jlO jaR jfc jbb cyI jbQ jlO cyI u.2.2.1 a4 cyJ n4 u.2.2.2) : va_W))) (va_A (qM0 a0 jaK jaR ja1 jcp jbc jbV ja3 jbH jaT jbO jaq jac jbI jbl jbn jba jaa jdu jbz jaR jcB jcC jbo jbp jbk jbj jbe jbq jef jbm jbi jcd jaT jbb jlO jaR jfc jbb cyI jbQ jlO cyI jmY a4 cyJ n4 f4) sz)) 3 18 (va_A (qM0 a0 jaK jaR ja1 jcp jbc jbV ja3 jbH jaT jbO jaq jac jbI jbl jbn jba jaa jdu jbz jaR jcB jcC jbo jbp jbk jbj jbe jbq jef jbm jbi jcd jaT jbb jlO jaR jfc jbb cyI jbQ jlO cyI jmY a4 cyJ n4 f4) sz) := by
  refine va_MetW (cc := cL_clover) (maxL := 6) (ret := (some .int)) (by decide) rfl ?_
  intro p e s m args below meth c s₁ B hml hv
  obtain ⟨rfl, hsz, hP, hK, hD0, hNw, hXl, hXu, hXn, hXt⟩ := hv
  have hx := B.exec
  have hb := B.bytes
  have hr := B.returns
  have hts := atoms_spec (ws := wsL_clover) B.pre
  have hown : s.vm.findClass RL = some m.cls := findClass_of_methodNamed B.named
  have hlocks := B.notSynchronized
  subst hsz
  have hD := hD0.self (sz := s.heap.size)
  generalize hAe : va_A (qM0 a0 jaK jaR ja1 jcp jbc jbV ja3 jbH jaT jbO jaq jac jbI jbl jbn jba jaa jdu jbz jaR jcB jcC jbo jbp jbk jbj jbe jbq jef jbm jbi jcd jaT jbb jlO jaR jfc jbb cyI jbQ jlO cyI jmY a4 cyJ n4 f4) s.heap.size = A at hD hXu hXn ⊢
  have hA : ∀ q : Nat, s.heap.size ≤ q → A q := fun q h => by rw [← hAe]; exact Or.inr h
  have hS : va_S A s.heap s.heap [] := va_S.rf
  have hP : va_P (dC, dI) vwCl (qM0 a0 jaK jaR ja1 jcp jbc jbV ja3 jbH jaT jbO jaq jac jbI jbl jbn jba jaa jdu jbz jaR jcB jcC jbo jbp jbk jbj jbe jbq jef jbm jbi jcd jaT jbb jlO jaR jfc jbb cyI jbQ jlO cyI jmY a4 cyJ n4 f4) s.heap := hP
  have hl := lv_entry ([.ref a0, .int p1, .int p2, .int p3, .ref a4]) (n := 6) (nbq rfl)
  rw [lg_entry_eq]
  generalize (lg_sl ([.ref a0, .int p1, .int p2, .int p3, .ref a4]) ++ List.replicate (6 - (lg_sl ([.ref a0, .int p1, .int p2, .int p3, .ref a4])).length) Slot.unset).toArray = ls at hl ⊢
  have hl : lv_has ls 6 [(0, .ref a0), (1, .int p1), (2, .int p2), (3, .int p3), (4, .ref a4)] := hl
  have hY : cfY l s A := ⟨hXl, hXu, hXn, hXt⟩
  have hTb := vx_table (x := yL_clover) B (hts _ qaGQ)
  clear hAe
  obtain ⟨H, hH⟩ : ∃ H, H = s.heap := ⟨_, rfl⟩
  rw [← hH] at hP ⊢
  have hS : va_S A s.heap H [] := by rw [hH]; exact va_S.rf
  have hS := hS
  refine lv_aload hx hb (qaa qls 0 rfl) (lv_at hl 4 rfl) ?_
  refine lv_iconst (v := 0) hx hb (qaa qls 1 rfl) (by decide) ?_
  refine lv_aload_n hx hb (qaa qls 2 rfl) rfl (lv_at hl 0 rfl) ?_
  refine lv_iload_n hx hb (qaa qls 3 rfl) rfl (lv_at hl 1 rfl) ?_
  refine lv_iload_n hx hb (qaa qls 4 rfl) rfl (lv_at hl 2 rfl) ?_
  refine lv_iload_n hx hb (qaa qls 5 rfl) rfl (lv_at hl 3 rfl) ?_
  obtain ⟨hCc, hPc, hDc, hFc⟩ := qac (ws' := (qwh a0 jaK jaR ja1 jcp jbc jbV ja3 jbH jaT jbO jaq jac jbI jbl jbn jba jaa jdu jbz jaR jcB jcC jbo jbp jbk jbj jbe jbq jef jbm jbi jcd jaT jbb jlO jaR jfc jbb cyI jbQ jlO cyI jmY)) hP hD hS hA [0, 1, 2, 3, 4] (by decide +kernel) rfl
  refine vx_calli (vx_runV (As := [.int p1, .int p2, .int p3]) (rest := [.int 0, .ref a4]) ⟨hx, hb, hml, hown, hts⟩ (qaQs l dC dI cyB cyI cyJ cyP a0 jaR jaT jbb jlO H.size (jaK) (ja1) (jcp) (jbc) (jbV) (ja3) (jbH) (jbO) (jaq) (jac) (jbI) (jbl) (jbn) (jba) (jaa) (jcB) (jcC) (jbo) (jbp) (jbk) (jbj) (jbe) (jbq) (jef) (jbi) (jcd) (jfc) jbm jbQ jdu jbz jmY p1 p2 p3 hw) (cwV 3 hts gL_clover_X10_clover rfl rfl rfl (by decide +kernel) ⟨nbq rfl, nbq rfl⟩) ⟨qau, va_recv (q := (RX10, TX10, 19)) hK hPc (ci := 10) (q0 := 0) rfl rfl, qbk hPc hK hDc hNw hY hS hFc⟩ rfl rfl hl.1 rfl (lv_room (nbq rfl)) (qaa qls 6 rfl) ⟨nbq rfl, nbq rfl⟩) hS (fun q _ h => hFc q h) hFc (fun q _ h => hFc q h) (fun en ce qx9 u t H1 locs ht hvm hpx hB hz1 hk1 hS hc9 hv9 hcl9 => ?_) (fun r4 u t H1 locs ht hvm hw hB hz1 hk1 hS => ?_)
  · obtain ⟨x1, x2, f3⟩ := u
    obtain ⟨hw, hP1, hK1, hD1⟩ := hB
    rw [ht] at hP1
    obtain ⟨hP, hD⟩ := qad (wr := [(a4, .inl (cyJ, n4, .inr (.inl f4)))]) (w1 := (qwh a0 jaK jaR ja1 jcp jbc jbV ja3 jbH jaT jbO jaq jac jbI jbl jbn jba jaa x1 x2 jaR jcB jcC jbo jbp jbk jbj jbe jbq jef jbm jbi jcd jaT jbb jlO jaR jfc jbb cyI jbQ jlO cyI f3)) (wn := (qM0 a0 jaK jaR ja1 jcp jbc jbV ja3 jbH jaT jbO jaq jac jbI jbl jbn jba jaa x1 x2 jaR jcB jcC jbo jbp jbk jbj jbe jbq jef jbm jbi jcd jaT jbb jlO jaR jfc jbb cyI jbQ jlO cyI f3 a4 cyJ n4 f4)) hP hD [0, 1, 2, 3, 4] [5] [1, 2, 3, 4, 5, 0] hCc rfl (by decide +kernel) (by decide +kernel) (by decide +kernel) rfl hk1 hFc hP1 hD1
    generalize H1 = H at hP hS hc9 ⊢
    rcases hw with ⟨rfl, hw⟩ | ⟨rfl, hw⟩
    · refine vx_catch (own := RL) (name := "java/util/NoSuchElementException") hown [] ⟨0, 12, 15, 31⟩ [⟨0, 12, 19, 13⟩] (hTb.trans rfl) (fun z hz => nomatch hz) (by decide) (by decide) (hts _ qYM) (va_Nw.use rfl (hY.2.2.2.1.2 _ (List.mem_of_getElem? (i := 1) rfl))) hc9 hv9 hcl9 ?_
      refine lv_astore (lv' := [(5, .ref qx9), (0, .ref a0), (1, .int p1), (2, .int p2), (3, .int p3), (4, .ref a4)]) hx hb (qaa qls 10 rfl) hl (by decide) rfl (fun ls hl => ?_)
      refine lv_iconst (v := 1) hx hb (qaa qls 11 rfl) (by decide) ?_
      exact (W.widen (k := 3) (n := 18) (nbq rfl) (nbq rfl) (W.iret (v := 1) hx hb hr (fun t ht hW => ⟨⟨1, (x1, x2, f3, f4), rfl, hw, by rw [ht]; exact hP, va_K.moved hW.alike hK, hD⟩, hS.F ht⟩) hS.2.2 (qaa qls 12 rfl)))
    · refine vx_catch (own := RL) (name := "java/lang/IllegalArgumentException") hown [⟨0, 12, 15, 31⟩] ⟨0, 12, 19, 13⟩ [] (hTb.trans rfl) (fun z hz => by rw [List.mem_singleton.mp hz]; exact Or.inr ⟨by decide, _, (hts _ qYM), hY.2.2.2.2.2⟩) (by decide) (by decide) (hts _ qauH) (va_Nw.use rfl (hY.2.2.2.1.2 _ (List.mem_of_getElem? (i := 0) rfl))) hc9 hv9 hcl9 ?_
      refine lv_astore (lv' := [(5, .ref qx9), (0, .ref a0), (1, .int p1), (2, .int p2), (3, .int p3), (4, .ref a4)]) hx hb (qaa qls 13 rfl) hl (by decide) rfl (fun ls hl => ?_)
      refine lv_iconst (v := 2) hx hb (qaa qls 14 rfl) (by decide) ?_
      exact (W.widen (k := 3) (n := 18) (nbq rfl) (nbq rfl) (W.iret (v := 2) hx hb hr (fun t ht hW => ⟨⟨2, (x1, x2, f3, f4), rfl, hw, by rw [ht]; exact hP, va_K.moved hW.alike hK, hD⟩, hS.F ht⟩) hS.2.2 (qaa qls 15 rfl)))
  obtain ⟨x1, x2, f3⟩ := u
  obtain ⟨hP1, hK1, hD1⟩ := hB
  rw [ht] at hP1
  obtain ⟨hP, hD⟩ := va_join (wr := [(a4, .inl (cyJ, n4, .inr (.inl f4)))]) (w1 := (qwh a0 jaK jaR ja1 jcp jbc jbV ja3 jbH jaT jbO jaq jac jbI jbl jbn jba jaa x1 x2 jaR jcB jcC jbo jbp jbk jbj jbe jbq jef jbm jbi jcd jaT jbb jlO jaR jfc jbb cyI jbQ jlO cyI f3)) hP hD [0, 1, 2, 3, 4] [5] rfl rfl (by decide) (by decide) hk1 hFc hP1 hD1
  have hP : va_P (dC, dI) vwCl (qM0 a0 jaK jaR ja1 jcp jbc jbV ja3 jbH jaT jbO jaq jac jbI jbl jbn jba jaa x1 x2 jaR jcB jcC jbo jbp jbk jbj jbe jbq jef jbm jbi jcd jaT jbb jlO jaR jfc jbb cyI jbQ jlO cyI f3 a4 cyJ n4 f4) H1 := hP.sub [1, 2, 3, 4, 5, 0] rfl
  have hD : va_D A (qM0 a0 jaK jaR ja1 jcp jbc jbV ja3 jbH jaT jbO jaq jac jbI jbl jbn jba jaa x1 x2 jaR jcB jcC jbo jbp jbk jbj jbe jbq jef jbm jbi jcd jaT jbb jlO jaR jfc jbb cyI jbQ jlO cyI f3 a4 cyJ n4 f4) := hD.sub [1, 2, 3, 4, 5, 0] (by decide) rfl
  generalize H1 = H at hP hS ⊢
  refine lv_i2l (v := r4.toInt64) hx hb (qaa qls 7 rfl) rfl ?_
  refine lv_topl (fun x5 ex5 => ?_)
  have hw := hw x5 ex5
  obtain ⟨hi9, hw⟩ := hw
  refine va_last hx hb hK hP hD hS 5 2 rfl rfl hi9 (qaa qls 8 rfl) (fun H locs hP hD hS => ?_)
  obtain ⟨f6, ef6⟩ : ∃ y : Nat → Int64, y = vp_updL f4 (0 : Int32).toNatClampNeg x5 := ⟨_, rfl⟩
  have hw := hw f6 ef6
  have hP : va_P (dC, dI) vwCl (qM0 a0 jaK jaR ja1 jcp jbc jbV ja3 jbH jaT jbO jaq jac jbI jbl jbn jba jaa x1 x2 jaR jcB jcC jbo jbp jbk jbj jbe jbq jef jbm jbi jcd jaT jbb jlO jaR jfc jbb cyI jbQ jlO cyI f3 a4 cyJ n4 f6) H := by rw [ef6]; exact hP
  have hD : va_D A (qM0 a0 jaK jaR ja1 jcp jbc jbV ja3 jbH jaT jbO jaq jac jbI jbl jbn jba jaa x1 x2 jaR jcB jcC jbo jbp jbk jbj jbe jbq jef jbm jbi jcd jaT jbb jlO jaR jfc jbb cyI jbQ jlO cyI f3 a4 cyJ n4 f6) := by rw [ef6]; exact hD
  refine lv_goto (tgt := 23) hx hb (qaa qls 9 rfl) (by decide) ?_
  refine lv_iconst (v := 0) hx hb (qaa q7b 0 rfl) (by decide) ?_
  exact (W.widen (k := 3) (n := 18) (nbq rfl) (nbq rfl) (W.iret (v := 0) hx hb hr (fun t ht hW => ⟨⟨0, (x1, x2, f3, f6), rfl, hw, by rw [ht]; exact hP, va_K.moved hW.alike hK, hD⟩, hS.F ht⟩) hS.2.2 (qaa q7b 1 rfl)))
theorem qaDq : ∀ w ∈ u_ws RX10 TX10 19, w ∈ wsX10_debt := uiM qOy qyE (by decide +kernel)
theorem qay3 : (.fieldLink RX10 58 "MarchHares" "now" "LMarchHares$Days;" : Cond) ∈ wsX10_debt := qOy 79 (by decide +kernel)
set_option maxHeartbeats 4000000 in
set_option maxRecDepth 100000 in
theorem qaY6 (l : Launch) (dC : Nat → ClassId) (dI : Nat → Nat → Nat) (cyB cyI cyJ cyP : ClassId) (a0 jaR jaT jbb sz : Nat) (jaK ja1 jcp jbc jbV ja3 jbH jbO jaq jac jbI jbl jbn jba jaa jdD jcB jcC jbo jbp jbk jbj jbe jbq jef jbi jcd jbr jhD jfc : Value) (jbm : Int32) (jbQ : NI) (jdu p1 p2 : Int32) {E : String → Int32 → Prop} {Q : Int32 → Int32 → Prop} (hw : qabv jbm jbQ jdu p1 p2 E Q) : vx_Met l yX10_debt wsX10_debt ({ frames := 7, cells := 2, slots := 12, locals := 141 }) (va_Pc [.ref a0, .int p1, .int p2] (cPx l (dC, dI) (kT cyB cyI cyJ cyP) (qAV a0 jaK jaR ja1 jcp jbc jbV ja3 jbH jaT jbO jaq jac jbI jbl jbn jba jaa jdu jdD jaR jcB jcC jbo jbp jbk jbj jbe jbq jef jbm jbi jcd jaT jbb jbr jhD jfc jbb cyI jbQ) sz)) (va_Qi (fun (r u : Int32) => Q r u) (cB (dC, dI) (kT cyB cyI cyJ cyP) (va_A (qAV a0 jaK jaR ja1 jcp jbc jbV ja3 jbH jaT jbO jaq jac jbI jbl jbn jba jaa jdu jdD jaR jcB jcC jbo jbp jbk jbj jbe jbq jef jbm jbi jcd jaT jbb jbr jhD jfc jbb cyI jbQ) sz) (fun u : Int32 => ((qAV a0 jaK jaR ja1 jcp jbc jbV ja3 jbH jaT jbO jaq jac jbI jbl jbn jba jaa u jdD jaR jcB jcC jbo jbp jbk jbj jbe jbq jef jbm jbi jcd jaT jbb jbr jhD jfc jbb cyI jbQ) : va_W))) (va_A (qAV a0 jaK jaR ja1 jcp jbc jbV ja3 jbH jaT jbO jaq jac jbI jbl jbn jba jaa jdu jdD jaR jcB jcC jbo jbp jbk jbj jbe jbq jef jbm jbi jcd jaT jbb jbr jhD jfc jbb cyI jbQ) sz)) (vx_X (fun _ => True) (fun (en : String) (u : Int32) (t : State) => E en u ∧ cB (dC, dI) (kT cyB cyI cyJ cyP) (va_A (qAV a0 jaK jaR ja1 jcp jbc jbV ja3 jbH jaT jbO jaq jac jbI jbl jbn jba jaa jdu jdD jaR jcB jcC jbo jbp jbk jbj jbe jbq jef jbm jbi jcd jaT jbb jbr jhD jfc jbb cyI jbQ) sz) (fun u : Int32 => ((qAV a0 jaK jaR ja1 jcp jbc jbV ja3 jbH jaT jbO jaq jac jbI jbl jbn jba jaa u jdD jaR jcB jcC jbo jbp jbk jbj jbe jbq jef jbm jbi jcd jaT jbb jbr jhD jfc jbb cyI jbQ) : va_W)) u t) (va_A (qAV a0 jaK jaR ja1 jcp jbc jbV ja3 jbH jaT jbO jaq jac jbI jbl jbn jba jaa jdu jdD jaR jcB jcC jbo jbp jbk jbj jbe jbq jef jbm jbi jcd jaT jbb jbr jhD jfc jbb cyI jbQ) sz)) 2 12 (va_A (qAV a0 jaK jaR ja1 jcp jbc jbV ja3 jbH jaT jbO jaq jac jbI jbl jbn jba jaa jdu jdD jaR jcB jcC jbo jbp jbk jbj jbe jbq jef jbm jbi jcd jaT jbb jbr jhD jfc jbb cyI jbQ) sz) := by
  refine vx_ofW (cc := cX10_debt) (maxL := 3) (ret := (some .int)) (by decide) rfl ?_
  intro p e s m args below meth c s₁ B hml hnt hv
  obtain ⟨rfl, hsz, hP, hK, hD0, hNw, hXl, hXu, hXn, hXt⟩ := hv
  have hx := B.exec
  have hb := B.bytes
  have hr := B.returns
  have hts := atoms_spec (ws := wsX10_debt) B.pre
  have hown : s.vm.findClass RX10 = some m.cls := findClass_of_methodNamed B.named
  have hlocks := B.notSynchronized
  subst hsz
  have hD := hD0.self (sz := s.heap.size)
  generalize hAe : va_A (qAV a0 jaK jaR ja1 jcp jbc jbV ja3 jbH jaT jbO jaq jac jbI jbl jbn jba jaa jdu jdD jaR jcB jcC jbo jbp jbk jbj jbe jbq jef jbm jbi jcd jaT jbb jbr jhD jfc jbb cyI jbQ) s.heap.size = A at hD hXu hXn ⊢
  have hA : ∀ q : Nat, s.heap.size ≤ q → A q := fun q h => by rw [← hAe]; exact Or.inr h
  have hS : va_S A s.heap s.heap [] := va_S.rf
  have hP : va_P (dC, dI) vwCl (qAV a0 jaK jaR ja1 jcp jbc jbV ja3 jbH jaT jbO jaq jac jbI jbl jbn jba jaa jdu jdD jaR jcB jcC jbo jbp jbk jbj jbe jbq jef jbm jbi jcd jaT jbb jbr jhD jfc jbb cyI jbQ) s.heap := hP
  have hl := lv_entry ([.ref a0, .int p1, .int p2]) (n := 3) (nbq rfl)
  rw [lg_entry_eq]
  generalize (lg_sl ([.ref a0, .int p1, .int p2]) ++ List.replicate (3 - (lg_sl ([.ref a0, .int p1, .int p2])).length) Slot.unset).toArray = ls at hl ⊢
  have hl : lv_has ls 3 [(0, .ref a0), (1, .int p1), (2, .int p2)] := hl
  have hY : cfY l s A := ⟨hXl, hXu, hXn, hXt⟩
  have hXs : cfX l s c A := ⟨hnt, hY⟩
  have C0 : cfx p s m _ meth c cX10_debt (some .int) wsX10_debt RX10 3 A (dC, dI) (kT cyB cyI cyJ cyP) ∧ cfX l s c A := ⟨⟨hx, hb, hr, hts, hown, hlocks, hml, hA, hK, hNw⟩, hXs⟩
  clear hAe
  obtain ⟨H, hH⟩ : ∃ H, H = s.heap := ⟨_, rfl⟩
  rw [← hH] at hP ⊢
  have hS : va_S A s.heap H [] := by rw [hH]; exact va_S.rf
  have hS := hS
  refine lv_aload_n hx hb (qaa qqT 0 rfl) rfl (lv_at hl 0 rfl) ?_
  refine lv_iload_n hx hb (qaa qqT 1 rfl) rfl (lv_at hl 1 rfl) ?_
  obtain ⟨hCc, hPc, hDc, hFc⟩ := qac (ws' := (qVZ a0 jaK jaR ja1 jcp jbc jbV ja3 jbH jaT jbO jaq jac jbI jbl jbn jba jaa jdu jdD jaR jcB jcC jbo jbp jbk jbj jbe jbq jef jbm jbi jcd)) hP hD hS hA [0, 1] (by decide +kernel) rfl
  refine vx_callv (vx_runV (As := [.int p1]) (rest := []) ⟨hx, hb, hml, hown, hts⟩ (qqH l dC dI cyB cyI cyJ cyP a0 jaR H.size (jaK) (ja1) (jcp) (jbc) (jbV) (ja3) (jbH) (.ref jaT) (jbO) (jaq) (jac) (jbI) (jbl) (jbn) (jba) (jaa) (jdD) (jcB) (jcC) (jbo) (jbp) (jbk) (jbj) (jbe) (jbq) (jef) (jbi) (jcd) jbm jdu p1 hw) (cwV 1 hts gX10_debt_X10_needHare rfl rfl rfl (by decide +kernel) ⟨nbq rfl, nbq rfl⟩) ⟨qau, va_recv (q := (RX10, TX10, 19)) hK hPc (ci := 10) (q0 := 0) rfl rfl, qbk hPc hK hDc hNw hY hS hFc⟩ rfl rfl hl.1 rfl (lv_room (nbq rfl)) (qaa qqT 2 rfl) ⟨nbq rfl, nbq rfl⟩) hS (fun q _ h => hFc q h) hFc (fun q _ h => hFc q h) (fun en ce q9 u t H1 locs ht hvm hpx hB hz1 hk1 hS hc9 hv9 hcl9 => ?_) (fun u t H1 locs ht hvm hw hB hz1 hk1 hS => ?_)
  · obtain ⟨x1, rfl⟩ : ∃ z, z = u := ⟨_, rfl⟩
    obtain ⟨hw, hP1, hK1, hD1⟩ := hB
    rw [ht] at hP1
    obtain ⟨hP, hD⟩ := qad (wr := (qJA jaT jbb jbr jhD jfc jbb cyI jbQ)) (w1 := (qVZ a0 jaK jaR ja1 jcp jbc jbV ja3 jbH jaT jbO jaq jac jbI jbl jbn jba jaa x1 jdD jaR jcB jcC jbo jbp jbk jbj jbe jbq jef jbm jbi jcd)) (wn := (qAV a0 jaK jaR ja1 jcp jbc jbV ja3 jbH jaT jbO jaq jac jbI jbl jbn jba jaa x1 jdD jaR jcB jcC jbo jbp jbk jbj jbe jbq jef jbm jbi jcd jaT jbb jbr jhD jfc jbb cyI jbQ)) hP hD [0, 1] [2, 3] [2, 3, 0, 1] hCc rfl (by decide +kernel) (by decide +kernel) (by decide +kernel) rfl hk1 hFc hP1 hD1
    generalize H1 = H at hP hS hc9 ⊢
    exact vx_out (fun x hx9 => (hXs.1 x hx9).elim) hlocks hc9 hv9 hcl9 (fun t2 ht2 hal2 => ⟨(x1), trivial, ⟨hw, by rw [ht2]; exact hP, va_K.moved hal2 hK, hD⟩, hS.F ht2⟩) hS.2.2 (nbq rfl) (nbq rfl)
  obtain ⟨x1, rfl⟩ : ∃ z, z = u := ⟨_, rfl⟩
  obtain ⟨hP1, hK1, hD1⟩ := hB
  rw [ht] at hP1
  obtain ⟨hP, hD⟩ := qad (wr := (qJA jaT jbb jbr jhD jfc jbb cyI jbQ)) (w1 := (qVZ a0 jaK jaR ja1 jcp jbc jbV ja3 jbH jaT jbO jaq jac jbI jbl jbn jba jaa x1 jdD jaR jcB jcC jbo jbp jbk jbj jbe jbq jef jbm jbi jcd)) (wn := (qAV a0 jaK jaR ja1 jcp jbc jbV ja3 jbH jaT jbO jaq jac jbI jbl jbn jba jaa x1 jdD jaR jcB jcC jbo jbp jbk jbj jbe jbq jef jbm jbi jcd jaT jbb jbr jhD jfc jbb cyI jbQ)) hP hD [0, 1] [2, 3] [2, 3, 0, 1] hCc rfl (by decide +kernel) (by decide +kernel) (by decide +kernel) rfl hk1 hFc hP1 hD1
  generalize H1 = H at hP hS ⊢
  refine lv_aload_n hx hb (qaa qqT 3 rfl) rfl (lv_at hl 0 rfl) ?_
  refine lv_iload_n hx hb (qaa qqT 4 rfl) rfl (lv_at hl 2 rfl) ?_
  obtain ⟨hCc, hPc, hDc, hFc⟩ := qac (ws' := (qVZ a0 jaK jaR ja1 jcp jbc jbV ja3 jbH jaT jbO jaq jac jbI jbl jbn jba jaa x1 jdD jaR jcB jcC jbo jbp jbk jbj jbe jbq jef jbm jbi jcd)) hP hD hS hA [0, 1] (by decide +kernel) rfl
  refine vx_callv (vx_runV (As := [.int p2]) (rest := []) ⟨hx, hb, hml, hown, hts⟩ (qqH l dC dI cyB cyI cyJ cyP a0 jaR H.size (jaK) (ja1) (jcp) (jbc) (jbV) (ja3) (jbH) (.ref jaT) (jbO) (jaq) (jac) (jbI) (jbl) (jbn) (jba) (jaa) (jdD) (jcB) (jcC) (jbo) (jbp) (jbk) (jbj) (jbe) (jbq) (jef) (jbi) (jcd) jbm x1 p2 hw) (cwV 1 hts gX10_debt_X10_needHare rfl rfl rfl (by decide +kernel) ⟨nbq rfl, nbq rfl⟩) ⟨qau, va_recv (q := (RX10, TX10, 19)) hK hPc (ci := 10) (q0 := 0) rfl rfl, qbk hPc hK hDc hNw hY hS hFc⟩ rfl rfl hl.1 rfl (lv_room (nbq rfl)) (qaa qqT 5 rfl) ⟨nbq rfl, nbq rfl⟩) hS (fun q _ h => hFc q h) hFc (fun q _ h => hFc q h) (fun en ce q9 u t H1 locs ht hvm hpx hB hz1 hk1 hS hc9 hv9 hcl9 => ?_) (fun u t H1 locs ht hvm hw hB hz1 hk1 hS => ?_)
  · obtain ⟨x2, rfl⟩ : ∃ z, z = u := ⟨_, rfl⟩
    obtain ⟨hw, hP1, hK1, hD1⟩ := hB
    rw [ht] at hP1
    obtain ⟨hP, hD⟩ := qad (wr := (qJA jaT jbb jbr jhD jfc jbb cyI jbQ)) (w1 := (qVZ a0 jaK jaR ja1 jcp jbc jbV ja3 jbH jaT jbO jaq jac jbI jbl jbn jba jaa x2 jdD jaR jcB jcC jbo jbp jbk jbj jbe jbq jef jbm jbi jcd)) (wn := (qAV a0 jaK jaR ja1 jcp jbc jbV ja3 jbH jaT jbO jaq jac jbI jbl jbn jba jaa x2 jdD jaR jcB jcC jbo jbp jbk jbj jbe jbq jef jbm jbi jcd jaT jbb jbr jhD jfc jbb cyI jbQ)) hP hD [0, 1] [2, 3] [2, 3, 0, 1] hCc rfl (by decide +kernel) (by decide +kernel) (by decide +kernel) rfl hk1 hFc hP1 hD1
    generalize H1 = H at hP hS hc9 ⊢
    exact vx_out (fun x hx9 => (hXs.1 x hx9).elim) hlocks hc9 hv9 hcl9 (fun t2 ht2 hal2 => ⟨(x2), trivial, ⟨hw, by rw [ht2]; exact hP, va_K.moved hal2 hK, hD⟩, hS.F ht2⟩) hS.2.2 (nbq rfl) (nbq rfl)
  obtain ⟨x2, rfl⟩ : ∃ z, z = u := ⟨_, rfl⟩
  obtain ⟨hP1, hK1, hD1⟩ := hB
  rw [ht] at hP1
  obtain ⟨hP, hD⟩ := qad (wr := (qJA jaT jbb jbr jhD jfc jbb cyI jbQ)) (w1 := (qVZ a0 jaK jaR ja1 jcp jbc jbV ja3 jbH jaT jbO jaq jac jbI jbl jbn jba jaa x2 jdD jaR jcB jcC jbo jbp jbk jbj jbe jbq jef jbm jbi jcd)) (wn := (qAV a0 jaK jaR ja1 jcp jbc jbV ja3 jbH jaT jbO jaq jac jbI jbl jbn jba jaa x2 jdD jaR jcB jcC jbo jbp jbk jbj jbe jbq jef jbm jbi jcd jaT jbb jbr jhD jfc jbb cyI jbQ)) hP hD [0, 1] [2, 3] [2, 3, 0, 1] hCc rfl (by decide +kernel) (by decide +kernel) (by decide +kernel) rfl hk1 hFc hP1 hD1
  generalize H1 = H at hP hS ⊢
  refine lv_aload_n hx hb (qaa qqT 6 rfl) rfl (lv_at hl 0 rfl) ?_
  refine va_get (D := (dC, dI)) (ci := 10) (v := .ref jaT) (C := RX10) (T := TX10) (N := 19) hx hb hts qaDq hown hK hP 0 rfl rfl 8 (by decide) (hts _ qay3) (fun _ h9 => h9) rfl (qaa qqT 7 rfl) ?_
  refine lv_iload_n hx hb (qaa qqT 8 rfl) rfl (lv_at hl 1 rfl) ?_
  refine lv_iload_n hx hb (qaa qqT 9 rfl) rfl (lv_at hl 2 rfl) ?_
  obtain ⟨hCc, hPc, hDc, hFc⟩ := qac (ws' := (qJA jaT jbb jbr jhD jfc jbb cyI jbQ)) hP hD hS hA [2, 3] (by decide +kernel) rfl
  refine va_calli (va_runV (As := [.int p1, .int p2]) (rest := []) ⟨hx, hb, hml, hown, hts⟩ (qF4 l dC dI cyB cyI cyJ cyP jaT jbb H.size (jbr) (jhD) (jfc) jbQ p1 p2 hw) (cwV 2 hts gX10_debt_X1_owesTo rfl rfl rfl (by decide +kernel) ⟨nbq rfl, nbq rfl⟩) ⟨qab, va_recv (q := (RX1, TX1, 4)) hK hPc (ci := 1) (q0 := 0) rfl rfl, qae hPc hK hDc hNw⟩ rfl rfl hl.1 rfl (lv_room (nbq rfl)) (qaa qqT 10 rfl) ⟨nbq rfl, nbq rfl⟩) hS (fun q _ h => hFc q h) hFc (fun r3 u t H1 locs ht hvm hw hB hz1 hk1 hS => ?_)
  obtain ⟨hP1, hK1, hD1⟩ := hB
  rw [ht] at hP1
  obtain ⟨hP, hD⟩ := qah (wr := (qVZ a0 jaK jaR ja1 jcp jbc jbV ja3 jbH jaT jbO jaq jac jbI jbl jbn jba jaa x2 jdD jaR jcB jcC jbo jbp jbk jbj jbe jbq jef jbm jbi jcd)) (w1 := (qJA jaT jbb jbr jhD jfc jbb cyI jbQ)) (wn := (qAV a0 jaK jaR ja1 jcp jbc jbV ja3 jbH jaT jbO jaq jac jbI jbl jbn jba jaa x2 jdD jaR jcB jcC jbo jbp jbk jbj jbe jbq jef jbm jbi jcd jaT jbb jbr jhD jfc jbb cyI jbQ)) hP hD [2, 3] [0, 1] hCc rfl (by decide +kernel) (by decide +kernel) rfl hk1 hFc hP1 hD1
  generalize H1 = H at hP hS ⊢
  exact vx_ret (W.widen (k := 2) (n := 12) (nbq rfl) (nbq rfl) (W.iret (v := r3) hx hb hr (fun t ht hW => ⟨⟨r3, (x2), rfl, hw, by rw [ht]; exact hP, va_K.moved hW.alike hK, hD⟩, hS.F ht⟩) hS.2.2 (qaa qqT 11 rfl)))
theorem qaI3 : (.classLink RL 31 "java/util/NoSuchElementException" : Cond) ∈ wsL_debt := qau8 2639 (by decide +kernel)
theorem qaTq : (.codeWith yL_debt cL_debt 5 (some .int) [(0, 10, 13, 31)] : Cond) ∈ wsL_debt := qau8 2826 (by decide +kernel)
set_option maxHeartbeats 4000000 in
set_option maxRecDepth 100000 in
theorem qa8d (l : Launch) (dC : Nat → ClassId) (dI : Nat → Nat → Nat) (cyB cyI cyJ cyP : ClassId) (a0 a3 jaR jaT jbb sz : Nat) (jaK ja1 jcp jbc jbV ja3 jbH jbO jaq jac jbI jbl jbn jba jaa jdD jcB jcC jbo jbp jbk jbj jbe jbq jef jbi jcd jbr jhD jfc : Value) (n3 : Nat) (jbm : Int32) (jbQ : NI) (jdu : Int32) (f3 : Nat → Int64) (p1 p2 : Int32) {Q : Int32 → Int32 → (Nat → Int64) → Prop} (hw : qaTG n3 jbm jbQ jdu f3 p1 p2 Q) : Met l yL_debt wsL_debt ({ frames := 8, cells := 2, slots := 12, locals := 163 }) (va_Pc [.ref a0, .int p1, .int p2, .ref a3] (cPx l (dC, dI) (kT cyB cyI cyJ cyP) (qMb a0 jaK jaR ja1 jcp jbc jbV ja3 jbH jaT jbO jaq jac jbI jbl jbn jba jaa jdu jdD jaR jcB jcC jbo jbp jbk jbj jbe jbq jef jbm jbi jcd jaT jbb jbr jhD jfc jbb cyI jbQ a3 cyJ n3 f3) sz)) (va_Qi (fun (r : Int32) (u : Int32 × (Nat → Int64)) => Q r u.1 u.2) (cB (dC, dI) (kT cyB cyI cyJ cyP) (va_A (qMb a0 jaK jaR ja1 jcp jbc jbV ja3 jbH jaT jbO jaq jac jbI jbl jbn jba jaa jdu jdD jaR jcB jcC jbo jbp jbk jbj jbe jbq jef jbm jbi jcd jaT jbb jbr jhD jfc jbb cyI jbQ a3 cyJ n3 f3) sz) (fun u : Int32 × (Nat → Int64) => ((qMb a0 jaK jaR ja1 jcp jbc jbV ja3 jbH jaT jbO jaq jac jbI jbl jbn jba jaa u.1 jdD jaR jcB jcC jbo jbp jbk jbj jbe jbq jef jbm jbi jcd jaT jbb jbr jhD jfc jbb cyI jbQ a3 cyJ n3 u.2) : va_W))) (va_A (qMb a0 jaK jaR ja1 jcp jbc jbV ja3 jbH jaT jbO jaq jac jbI jbl jbn jba jaa jdu jdD jaR jcB jcC jbo jbp jbk jbj jbe jbq jef jbm jbi jcd jaT jbb jbr jhD jfc jbb cyI jbQ a3 cyJ n3 f3) sz)) 2 12 (va_A (qMb a0 jaK jaR ja1 jcp jbc jbV ja3 jbH jaT jbO jaq jac jbI jbl jbn jba jaa jdu jdD jaR jcB jcC jbo jbp jbk jbj jbe jbq jef jbm jbi jcd jaT jbb jbr jhD jfc jbb cyI jbQ a3 cyJ n3 f3) sz) := by
  refine va_MetW (cc := cL_debt) (maxL := 5) (ret := (some .int)) (by decide) rfl ?_
  intro p e s m args below meth c s₁ B hml hv
  obtain ⟨rfl, hsz, hP, hK, hD0, hNw, hXl, hXu, hXn, hXt⟩ := hv
  have hx := B.exec
  have hb := B.bytes
  have hr := B.returns
  have hts := atoms_spec (ws := wsL_debt) B.pre
  have hown : s.vm.findClass RL = some m.cls := findClass_of_methodNamed B.named
  have hlocks := B.notSynchronized
  subst hsz
  have hD := hD0.self (sz := s.heap.size)
  generalize hAe : va_A (qMb a0 jaK jaR ja1 jcp jbc jbV ja3 jbH jaT jbO jaq jac jbI jbl jbn jba jaa jdu jdD jaR jcB jcC jbo jbp jbk jbj jbe jbq jef jbm jbi jcd jaT jbb jbr jhD jfc jbb cyI jbQ a3 cyJ n3 f3) s.heap.size = A at hD hXu hXn ⊢
  have hA : ∀ q : Nat, s.heap.size ≤ q → A q := fun q h => by rw [← hAe]; exact Or.inr h
  have hS : va_S A s.heap s.heap [] := va_S.rf
  have hP : va_P (dC, dI) vwCl (qMb a0 jaK jaR ja1 jcp jbc jbV ja3 jbH jaT jbO jaq jac jbI jbl jbn jba jaa jdu jdD jaR jcB jcC jbo jbp jbk jbj jbe jbq jef jbm jbi jcd jaT jbb jbr jhD jfc jbb cyI jbQ a3 cyJ n3 f3) s.heap := hP
  have hl := lv_entry ([.ref a0, .int p1, .int p2, .ref a3]) (n := 5) (nbq rfl)
  rw [lg_entry_eq]
  generalize (lg_sl ([.ref a0, .int p1, .int p2, .ref a3]) ++ List.replicate (5 - (lg_sl ([.ref a0, .int p1, .int p2, .ref a3])).length) Slot.unset).toArray = ls at hl ⊢
  have hl : lv_has ls 5 [(0, .ref a0), (1, .int p1), (2, .int p2), (3, .ref a3)] := hl
  have hY : cfY l s A := ⟨hXl, hXu, hXn, hXt⟩
  have hTb := vx_table (x := yL_debt) B (hts _ qaTq)
  clear hAe
  obtain ⟨H, hH⟩ : ∃ H, H = s.heap := ⟨_, rfl⟩
  rw [← hH] at hP ⊢
  have hS : va_S A s.heap H [] := by rw [hH]; exact va_S.rf
  have hS := hS
  refine lv_aload_n hx hb (qaa qsh 0 rfl) rfl (lv_at hl 3 rfl) ?_
  refine lv_iconst (v := 0) hx hb (qaa qsh 1 rfl) (by decide) ?_
  refine lv_aload_n hx hb (qaa qsh 2 rfl) rfl (lv_at hl 0 rfl) ?_
  refine lv_iload_n hx hb (qaa qsh 3 rfl) rfl (lv_at hl 1 rfl) ?_
  refine lv_iload_n hx hb (qaa qsh 4 rfl) rfl (lv_at hl 2 rfl) ?_
  obtain ⟨hCc, hPc, hDc, hFc⟩ := qac (ws' := (qAV a0 jaK jaR ja1 jcp jbc jbV ja3 jbH jaT jbO jaq jac jbI jbl jbn jba jaa jdu jdD jaR jcB jcC jbo jbp jbk jbj jbe jbq jef jbm jbi jcd jaT jbb jbr jhD jfc jbb cyI jbQ)) hP hD hS hA [0, 1, 2, 3] (by decide +kernel) rfl
  refine vx_calli (vx_runV (As := [.int p1, .int p2]) (rest := [.int 0, .ref a3]) ⟨hx, hb, hml, hown, hts⟩ (qaY6 l dC dI cyB cyI cyJ cyP a0 jaR jaT jbb H.size (jaK) (ja1) (jcp) (jbc) (jbV) (ja3) (jbH) (jbO) (jaq) (jac) (jbI) (jbl) (jbn) (jba) (jaa) (jdD) (jcB) (jcC) (jbo) (jbp) (jbk) (jbj) (jbe) (jbq) (jef) (jbi) (jcd) (jbr) (jhD) (jfc) jbm jbQ jdu p1 p2 hw) (cwV 2 hts gL_debt_X10_debt rfl rfl rfl (by decide +kernel) ⟨nbq rfl, nbq rfl⟩) ⟨qau, va_recv (q := (RX10, TX10, 19)) hK hPc (ci := 10) (q0 := 0) rfl rfl, qbk hPc hK hDc hNw hY hS hFc⟩ rfl rfl hl.1 rfl (lv_room (nbq rfl)) (qaa qsh 5 rfl) ⟨nbq rfl, nbq rfl⟩) hS (fun q _ h => hFc q h) hFc (fun q _ h => hFc q h) (fun en ce qx9 u t H1 locs ht hvm hpx hB hz1 hk1 hS hc9 hv9 hcl9 => ?_) (fun r2 u t H1 locs ht hvm hw hB hz1 hk1 hS => ?_)
  · obtain ⟨x1, rfl⟩ : ∃ z, z = u := ⟨_, rfl⟩
    obtain ⟨hw, hP1, hK1, hD1⟩ := hB
    rw [ht] at hP1
    obtain ⟨hP, hD⟩ := qad (wr := [(a3, .inl (cyJ, n3, .inr (.inl f3)))]) (w1 := (qAV a0 jaK jaR ja1 jcp jbc jbV ja3 jbH jaT jbO jaq jac jbI jbl jbn jba jaa x1 jdD jaR jcB jcC jbo jbp jbk jbj jbe jbq jef jbm jbi jcd jaT jbb jbr jhD jfc jbb cyI jbQ)) (wn := (qMb a0 jaK jaR ja1 jcp jbc jbV ja3 jbH jaT jbO jaq jac jbI jbl jbn jba jaa x1 jdD jaR jcB jcC jbo jbp jbk jbj jbe jbq jef jbm jbi jcd jaT jbb jbr jhD jfc jbb cyI jbQ a3 cyJ n3 f3)) hP hD [0, 1, 2, 3] [4] [1, 2, 3, 4, 0] hCc rfl (by decide +kernel) (by decide +kernel) (by decide +kernel) rfl hk1 hFc hP1 hD1
    generalize H1 = H at hP hS hc9 ⊢
    obtain ⟨rfl, hw⟩ := hw
    refine vx_catch (own := RL) (name := "java/util/NoSuchElementException") hown [] ⟨0, 10, 13, 31⟩ [] (hTb.trans rfl) (fun z hz => nomatch hz) (by decide) (by decide) (hts _ qaI3) (va_Nw.use rfl (hY.2.2.2.1.2 _ (List.mem_of_getElem? (i := 1) rfl))) hc9 hv9 hcl9 ?_
    refine lv_astore (lv' := [(4, .ref qx9), (0, .ref a0), (1, .int p1), (2, .int p2), (3, .ref a3)]) hx hb (qaa qsh 9 rfl) hl (by decide) rfl (fun ls hl => ?_)
    refine lv_iconst (v := 1) hx hb (qaa qsh 10 rfl) (by decide) ?_
    exact (W.widen (k := 2) (n := 12) (nbq rfl) (nbq rfl) (W.iret (v := 1) hx hb hr (fun t ht hW => ⟨⟨1, (x1, f3), rfl, hw, by rw [ht]; exact hP, va_K.moved hW.alike hK, hD⟩, hS.F ht⟩) hS.2.2 (qaa qsh 11 rfl)))
  obtain ⟨x1, rfl⟩ : ∃ z, z = u := ⟨_, rfl⟩
  obtain ⟨hP1, hK1, hD1⟩ := hB
  rw [ht] at hP1
  obtain ⟨hP, hD⟩ := va_join (wr := [(a3, .inl (cyJ, n3, .inr (.inl f3)))]) (w1 := (qAV a0 jaK jaR ja1 jcp jbc jbV ja3 jbH jaT jbO jaq jac jbI jbl jbn jba jaa x1 jdD jaR jcB jcC jbo jbp jbk jbj jbe jbq jef jbm jbi jcd jaT jbb jbr jhD jfc jbb cyI jbQ)) hP hD [0, 1, 2, 3] [4] rfl rfl (by decide) (by decide) hk1 hFc hP1 hD1
  have hP : va_P (dC, dI) vwCl (qMb a0 jaK jaR ja1 jcp jbc jbV ja3 jbH jaT jbO jaq jac jbI jbl jbn jba jaa x1 jdD jaR jcB jcC jbo jbp jbk jbj jbe jbq jef jbm jbi jcd jaT jbb jbr jhD jfc jbb cyI jbQ a3 cyJ n3 f3) H1 := hP.sub [1, 2, 3, 4, 0] rfl
  have hD : va_D A (qMb a0 jaK jaR ja1 jcp jbc jbV ja3 jbH jaT jbO jaq jac jbI jbl jbn jba jaa x1 jdD jaR jcB jcC jbo jbp jbk jbj jbe jbq jef jbm jbi jcd jaT jbb jbr jhD jfc jbb cyI jbQ a3 cyJ n3 f3) := hD.sub [1, 2, 3, 4, 0] (by decide) rfl
  generalize H1 = H at hP hS ⊢
  refine lv_i2l (v := r2.toInt64) hx hb (qaa qsh 6 rfl) rfl ?_
  refine lv_topl (fun x3 ex3 => ?_)
  have hw := hw x3 ex3
  obtain ⟨hi9, hw⟩ := hw
  refine va_last hx hb hK hP hD hS 4 2 rfl rfl hi9 (qaa qsh 7 rfl) (fun H locs hP hD hS => ?_)
  obtain ⟨f4, ef4⟩ : ∃ y : Nat → Int64, y = vp_updL f3 (0 : Int32).toNatClampNeg x3 := ⟨_, rfl⟩
  have hw := hw f4 ef4
  have hP : va_P (dC, dI) vwCl (qMb a0 jaK jaR ja1 jcp jbc jbV ja3 jbH jaT jbO jaq jac jbI jbl jbn jba jaa x1 jdD jaR jcB jcC jbo jbp jbk jbj jbe jbq jef jbm jbi jcd jaT jbb jbr jhD jfc jbb cyI jbQ a3 cyJ n3 f4) H := by rw [ef4]; exact hP
  have hD : va_D A (qMb a0 jaK jaR ja1 jcp jbc jbV ja3 jbH jaT jbO jaq jac jbI jbl jbn jba jaa x1 jdD jaR jcB jcC jbo jbp jbk jbj jbe jbq jef jbm jbi jcd jaT jbb jbr jhD jfc jbb cyI jbQ a3 cyJ n3 f4) := by rw [ef4]; exact hD
  refine lv_goto (tgt := 17) hx hb (qaa qsh 8 rfl) (by decide) ?_
  refine lv_iconst (v := 0) hx hb (qaa qsh 12 rfl) (by decide) ?_
  exact (W.widen (k := 2) (n := 12) (nbq rfl) (nbq rfl) (W.iret (v := 0) hx hb hr (fun t ht hW => ⟨⟨0, (x1, f4), rfl, hw, by rw [ht]; exact hP, va_K.moved hW.alike hK, hD⟩, hS.F ht⟩) hS.2.2 (qaa qsh 13 rfl)))
theorem qJE : ∀ w ∈ u_ws RX8 TX8 7, w ∈ wsX8_isLetter := uiM qXs euX8 (by decide +kernel)
theorem qRF : (.fieldLink RX8 11 "MarchHares$Tape" "bytes" "[B" : Cond) ∈ wsX8_isLetter := qXs 142 (by decide +kernel)
theorem qadH : (.fieldLink RX8 28 "MarchHares$Tape" "length" "I" : Cond) ∈ wsX8_isLetter := qXs 712 (by decide +kernel)
set_option maxHeartbeats 4000000 in
set_option maxRecDepth 100000 in
theorem qaGI (l : Launch) (dC : Nat → ClassId) (dI : Nat → Nat → Nat) (cyB cyI cyJ cyP : ClassId) (a0 jif sz : Nat) (jby jl9 jjY jmS jkr : Value) (jb7 : Int32) (jjA : NI) (p1 : Int32) {Q : Int32 → Prop} (hw : qUf jb7 jjA p1 Q) : Met l yX8_isLetter wsX8_isLetter ({ frames := 0, cells := 0, slots := 0, locals := 0 }) (va_Pc [.ref a0, .int p1] (cPc (dC, dI) (kT cyB cyI cyJ cyP) (qaaD a0 jif jb7 jby jl9 jjY jmS jkr jif cyB jjA) sz)) (va_Qi (fun (r : Int32) (_ : Unit) => Q r ) (cB (dC, dI) (kT cyB cyI cyJ cyP) (va_A (qaaD a0 jif jb7 jby jl9 jjY jmS jkr jif cyB jjA) sz) (fun u : Unit => ((qaaD a0 jif jb7 jby jl9 jjY jmS jkr jif cyB jjA) : va_W))) (va_A (qaaD a0 jif jb7 jby jl9 jjY jmS jkr jif cyB jjA) sz)) 0 0 (va_A (qaaD a0 jif jb7 jby jl9 jjY jmS jkr jif cyB jjA) sz) := by
  refine Met.ofW (cc := cX8_isLetter) (maxL := 2) (ret := (some .boolean)) (by decide) rfl ?_
  intro p e s m args below meth c s₁ B hml hv
  obtain ⟨rfl, hsz, hP, hK, hD0, hNw⟩ := hv
  have hx := B.exec
  have hb := B.bytes
  have hr := B.returns
  have hts := atoms_spec (ws := wsX8_isLetter) B.pre
  have hown : s.vm.findClass RX8 = some m.cls := findClass_of_methodNamed B.named
  have hlocks := B.notSynchronized
  subst hsz
  have hD := hD0.self (sz := s.heap.size)
  generalize hAe : va_A (qaaD a0 jif jb7 jby jl9 jjY jmS jkr jif cyB jjA) s.heap.size = A at hD ⊢
  have hA : ∀ q : Nat, s.heap.size ≤ q → A q := fun q h => by rw [← hAe]; exact Or.inr h
  have hS : va_S A s.heap s.heap [] := va_S.rf
  have hP : va_P (dC, dI) vwCl (qaaD a0 jif jb7 jby jl9 jjY jmS jkr jif cyB jjA) s.heap := hP
  have hl := lv_entry ([.ref a0, .int p1]) (n := 2) (nbq rfl)
  rw [lg_entry_eq]
  generalize (lg_sl ([.ref a0, .int p1]) ++ List.replicate (2 - (lg_sl ([.ref a0, .int p1])).length) Slot.unset).toArray = ls at hl ⊢
  have hl : lv_has ls 2 [(0, .ref a0), (1, .int p1)] := hl
  have C0 : cfx p s m _ meth c cX8_isLetter (some .boolean) wsX8_isLetter RX8 2 A (dC, dI) (kT cyB cyI cyJ cyP) := ⟨hx, hb, hr, hts, hown, hlocks, hml, hA, hK, hNw⟩
  clear hAe
  obtain ⟨H, hH⟩ : ∃ H, H = s.heap := ⟨_, rfl⟩
  rw [← hH] at hP ⊢
  have hS : va_S A s.heap H [] := by rw [hH]; exact va_S.rf
  have hS := hS
  refine lv_iload_n hx hb (qaa qfd 0 rfl) rfl (lv_at hl 1 rfl) ?_
  refine lv_aload_n hx hb (qaa qfd 1 rfl) rfl (lv_at hl 0 rfl) ?_
  refine va_get (D := (dC, dI)) (ci := 8) (v := .int jb7) (C := RX8) (T := TX8) (N := 7) hx hb hts qJE hown hK hP 0 rfl rfl 1 (by decide) (hts _ qadH) (fun _ h9 => h9) rfl (qaa qfd 2 rfl) ?_
  refine lv_icmp_ge (tgt := 34) hx hb (qaa qfd 3 rfl) (by decide) (fun c1 => ?_) (fun c1 => ?_)
  · have hw := hw.1 c1
    refine lv_iconst (v := 0) hx hb (qaa qpI 2 rfl) (by decide) ?_
    exact ((W.zret (v := 0) hx hb hr rfl (fun t ht hW => ⟨⟨0, (), rfl, hw, by rw [ht]; exact hP, va_K.moved hW.alike hK, hD⟩, hS.F ht⟩) hS.2.2 (qaa qpI 3 rfl)))
  · have hw := hw.2 c1
    refine lv_aload_n hx hb (qaa qfd 4 rfl) rfl (lv_at hl 0 rfl) ?_
    refine va_get (D := (dC, dI)) (ci := 8) (v := .ref jif) (C := RX8) (T := TX8) (N := 7) hx hb hts qJE hown hK hP 0 rfl rfl 0 (by decide) (hts _ qRF) (fun _ h9 => h9) rfl (qaa qfd 5 rfl) ?_
    refine lv_iload_n hx hb (qaa qfd 6 rfl) rfl (lv_at hl 1 rfl) ?_
    obtain ⟨hi9, hw⟩ := hw
    refine va_bald hx hb hK hP 1 0 rfl rfl hi9 (qaa qfd 7 rfl) ?_
    refine lv_topi (fun x2 ex2 => ?_)
    have hw := hw x2 ex2
    refine lv_bipush (v := 97) hx hb (qaa qfd 8 rfl) (by decide) ?_
    refine lv_icmp_lt (tgt := 34) hx hb (qaa qfd 9 rfl) (by decide) (fun c3 => ?_) (fun c3 => ?_)
    · have hw := hw.1 c3
      refine lv_iconst (v := 0) hx hb (qaa qpI 2 rfl) (by decide) ?_
      exact ((W.zret (v := 0) hx hb hr rfl (fun t ht hW => ⟨⟨0, (), rfl, hw, by rw [ht]; exact hP, va_K.moved hW.alike hK, hD⟩, hS.F ht⟩) hS.2.2 (qaa qpI 3 rfl)))
    · have hw := hw.2 c3
      refine lv_aload_n hx hb (qaa qfd 10 rfl) rfl (lv_at hl 0 rfl) ?_
      refine va_get (D := (dC, dI)) (ci := 8) (v := .ref jif) (C := RX8) (T := TX8) (N := 7) hx hb hts qJE hown hK hP 0 rfl rfl 0 (by decide) (hts _ qRF) (fun _ h9 => h9) rfl (qaa qfd 11 rfl) ?_
      refine lv_iload_n hx hb (qaa qfd 12 rfl) rfl (lv_at hl 1 rfl) ?_
      obtain ⟨hi9, hw⟩ := hw
      refine va_bald hx hb hK hP 1 0 rfl rfl hi9 (qaa qfd 13 rfl) ?_
      refine lv_topi (fun x4 ex4 => ?_)
      have hw := hw x4 ex4
      refine lv_bipush (v := 122) hx hb (qaa qfd 14 rfl) (by decide) ?_
      refine lv_icmp_gt (tgt := 34) hx hb (qaa qfd 15 rfl) (by decide) (fun c5 => ?_) (fun c5 => ?_)
      · have hw := hw.1 c5
        refine lv_iconst (v := 0) hx hb (qaa qpI 2 rfl) (by decide) ?_
        exact ((W.zret (v := 0) hx hb hr rfl (fun t ht hW => ⟨⟨0, (), rfl, hw, by rw [ht]; exact hP, va_K.moved hW.alike hK, hD⟩, hS.F ht⟩) hS.2.2 (qaa qpI 3 rfl)))
      · have hw := hw.2 c5
        refine lv_iconst (v := 1) hx hb (qaa qpI 0 rfl) (by decide) ?_
        refine lv_goto (tgt := 35) hx hb (qaa qpI 1 rfl) (by decide) ?_
        exact ((W.zret (v := 1) hx hb hr rfl (fun t ht hW => ⟨⟨1, (), rfl, hw, by rw [ht]; exact hP, va_K.moved hW.alike hK, hD⟩, hS.F ht⟩) hS.2.2 (qaa qpI 3 rfl)))
theorem qte : ∀ w ∈ u_ws RX2 TX2 12, w ∈ wsX2_readForm := uiM qtR qLg (by decide +kernel)
theorem qahq : (.fieldLink RX2 15 "MarchHares$Down" "formY" "[I" : Cond) ∈ wsX2_readForm := qtR 149 (by decide +kernel)
theorem qxk : (.fieldLink RX2 36 "MarchHares$Down" "forms" "I" : Cond) ∈ wsX2_readForm := qtR 720 (by decide +kernel)
theorem qamp : (.fieldLink RX2 9 "MarchHares$Down" "formX" "[I" : Cond) ∈ wsX2_readForm := qtR 148 (by decide +kernel)
set_option maxHeartbeats 4000000 in
set_option maxRecDepth 100000 in
theorem qU9 {p : Program} {l : Launch} {e : Env} {s : State} {m : MethodId} {args : Array Value} {below : List Frame} {meth : Method} {c : Code} {A : Nat → Prop} (dC : Nat → ClassId) (dI : Nat → Nat → Nat) (cyB cyI cyJ cyP : ClassId) (a0 a1 jha jbF jhi : Nat) (jlc jld jkJ jiT jj1 jjT ja4 jaP jkk jcI : Value) (jb3 : Int32) (jcq : NI) (Q : Int32 → Int32 → Int32 → Int32 → NI → NI → Int32 → Prop) (C0 : cfx p s m args meth c cX2_readForm none wsX2_readForm RX2 3 A (dC, dI) (kT cyB cyI cyJ cyP)) : ∀ (H : Heap) (locs : List Loc) (ls : Array Slot) (jhR jcU jbM jeF : Int32) (jiR jiP : NI) (jaN : Int32), va_P (dC, dI) vwCl (qyr a0 jha jhi jlc jld jkJ jiT jj1 jjT jaN ja4 jaP jkk a1 jbF jb3 jhR jeF jcI jcU jbM jbF cyB jcq jha cyI jiR jhi cyI jiP) H → va_D A (qyr a0 jha jhi jlc jld jkJ jiT jj1 jjT jaN ja4 jaP jkk a1 jbF jb3 jhR jeF jcI jcU jbM jbF cyB jcq jha cyI jiR jhi cyI jiP) → va_S A s.heap H locs → lv_has ls 3 [(1, .ref a1)] → qCT jb3 jcq Q jhR jcU jbM jeF jiR jiP jaN → W p l e (headSpec wsX2_readForm ({ frames := 3, cells := 0, slots := 0, locals := 63 })).room s m args below meth c H locs 0 0 (MQ below (va_Qv (fun (u : Int32 × Int32 × Int32 × Int32 × NI × NI × Int32) => Q u.1 u.2.1 u.2.2.1 u.2.2.2.1 u.2.2.2.2.1 u.2.2.2.2.2.1 u.2.2.2.2.2.2) (cB (dC, dI) (kT cyB cyI cyJ cyP) A (fun u : Int32 × Int32 × Int32 × Int32 × NI × NI × Int32 => ((qyr a0 jha jhi jlc jld jkJ jiT jj1 jjT u.2.2.2.2.2.2 ja4 jaP jkk a1 jbF jb3 u.1 u.2.2.2.1 jcI u.2.1 u.2.2.1 jbF cyB jcq jha cyI u.2.2.2.2.1 jhi cyI u.2.2.2.2.2.1) : va_W))) A) args s 0 0 A) (F0 m 13 ls []) := by
  obtain ⟨hx, hb, hr, hts, hown, hlocks, hml, hA, hK, hNw⟩ := id C0
  intro H locs ls jhR jcU jbM jeF jiR jiP jaN hP hD hS hl hw
  refine lv_aload_n hx hb (qaa qf7 6 rfl) rfl (lv_at hl 0 rfl) ?_
  refine lv_iconst (v := 3) hx hb (qaa qf7 7 rfl) (by decide) ?_
  obtain ⟨hCc, hPc, hDc, hFc⟩ := qac (ws' := (qMi a1 jbF jb3 jhR jeF jcI jcU jbM)) hP hD hS hA [1] (by decide +kernel) rfl
  refine va_callv (va_runV (As := [.int 3]) (rest := []) ⟨hx, hb, hml, hown, hts⟩ (qn6 l dC dI cyB cyI cyJ cyP a1 H.size (.ref jbF) (.int jb3) (.int jhR) (jcI) jeF jcU jbM 3 hw) (cwV 1 hts gX2_readForm_X8_blameToken rfl rfl rfl (by decide +kernel) ⟨nbq rfl, nbq rfl⟩) ⟨qab, va_recv (q := (RX8, TX8, 7)) hK hPc (ci := 8) (q0 := 0) rfl rfl, qae hPc hK hDc hNw⟩ rfl rfl hl.1 rfl (lv_room (nbq rfl)) (qaa qf7 8 rfl) ⟨nbq rfl, nbq rfl⟩) hS (fun q _ h => hFc q h) hFc (fun u t H1 locs ht hvm hw hB hz1 hk1 hS => ?_)
  obtain ⟨x20, x21⟩ := u
  obtain ⟨hP1, hK1, hD1⟩ := hB
  rw [ht] at hP1
  obtain ⟨hP, hD⟩ := qad (wr := [(a0, .inr (2, [.ref jha, .ref jhi, jlc, jld, jkJ, jiT, jj1, jjT, .int jaN, ja4, jaP, jkk])), (jbF, .inl (cyB, 600, .inl jcq)), (jha, .inl (cyI, 8, .inl jiR)), (jhi, .inl (cyI, 8, .inl jiP))]) (w1 := (qMi a1 jbF jb3 jhR jeF jcI x20 x21)) (wn := (qyr a0 jha jhi jlc jld jkJ jiT jj1 jjT jaN ja4 jaP jkk a1 jbF jb3 jhR jeF jcI x20 x21 jbF cyB jcq jha cyI jiR jhi cyI jiP)) hP hD [1] [0, 2, 3, 4] [0, 4, 1, 2, 3] hCc rfl (by decide +kernel) (by decide +kernel) (by decide +kernel) rfl hk1 hFc hP1 hD1
  generalize H1 = H at hP hS ⊢
  exact ((W.vret hx hb hr (fun t ht hW => ⟨⟨(jhR, x20, x21, jeF, jiR, jiP, jaN), rfl, hw, by rw [ht]; exact hP, va_K.moved hW.alike hK, hD⟩, hS.F ht⟩) hS.2.2 (qaa qf7 9 rfl)))
set_option maxHeartbeats 4000000 in
set_option maxRecDepth 100000 in
theorem qaIq (l : Launch) (dC : Nat → ClassId) (dI : Nat → Nat → Nat) (cyB cyI cyJ cyP : ClassId) (a0 a1 jha jbF jhi sz : Nat) (jlc jld jkJ jiT jj1 jjT ja4 jaP jkk jcI : Value) (jb3 : Int32) (jcq : NI) (jhR jcU jbM jeF : Int32) (jiR jiP : NI) (jaN p2 : Int32) {Q : Int32 → Int32 → Int32 → Int32 → NI → NI → Int32 → Prop} (hw : qTn jb3 jcq jhR jcU jbM jeF jiR jiP jaN p2 Q) : Met l yX2_readForm wsX2_readForm ({ frames := 3, cells := 0, slots := 0, locals := 63 }) (va_Pc [.ref a0, .ref a1, .int p2] (cPc (dC, dI) (kT cyB cyI cyJ cyP) (qyr a0 jha jhi jlc jld jkJ jiT jj1 jjT jaN ja4 jaP jkk a1 jbF jb3 jhR jeF jcI jcU jbM jbF cyB jcq jha cyI jiR jhi cyI jiP) sz)) (va_Qv (fun (u : Int32 × Int32 × Int32 × Int32 × NI × NI × Int32) => Q u.1 u.2.1 u.2.2.1 u.2.2.2.1 u.2.2.2.2.1 u.2.2.2.2.2.1 u.2.2.2.2.2.2) (cB (dC, dI) (kT cyB cyI cyJ cyP) (va_A (qyr a0 jha jhi jlc jld jkJ jiT jj1 jjT jaN ja4 jaP jkk a1 jbF jb3 jhR jeF jcI jcU jbM jbF cyB jcq jha cyI jiR jhi cyI jiP) sz) (fun u : Int32 × Int32 × Int32 × Int32 × NI × NI × Int32 => ((qyr a0 jha jhi jlc jld jkJ jiT jj1 jjT u.2.2.2.2.2.2 ja4 jaP jkk a1 jbF jb3 u.1 u.2.2.2.1 jcI u.2.1 u.2.2.1 jbF cyB jcq jha cyI u.2.2.2.2.1 jhi cyI u.2.2.2.2.2.1) : va_W))) (va_A (qyr a0 jha jhi jlc jld jkJ jiT jj1 jjT jaN ja4 jaP jkk a1 jbF jb3 jhR jeF jcI jcU jbM jbF cyB jcq jha cyI jiR jhi cyI jiP) sz)) 0 0 (va_A (qyr a0 jha jhi jlc jld jkJ jiT jj1 jjT jaN ja4 jaP jkk a1 jbF jb3 jhR jeF jcI jcU jbM jbF cyB jcq jha cyI jiR jhi cyI jiP) sz) := by
  refine Met.ofW (cc := cX2_readForm) (maxL := 3) (ret := none) (by decide) rfl ?_
  intro p e s m args below meth c s₁ B hml hv
  obtain ⟨rfl, hsz, hP, hK, hD0, hNw⟩ := hv
  have hx := B.exec
  have hb := B.bytes
  have hr := B.returns
  have hts := atoms_spec (ws := wsX2_readForm) B.pre
  have hown : s.vm.findClass RX2 = some m.cls := findClass_of_methodNamed B.named
  have hlocks := B.notSynchronized
  subst hsz
  have hD := hD0.self (sz := s.heap.size)
  generalize hAe : va_A (qyr a0 jha jhi jlc jld jkJ jiT jj1 jjT jaN ja4 jaP jkk a1 jbF jb3 jhR jeF jcI jcU jbM jbF cyB jcq jha cyI jiR jhi cyI jiP) s.heap.size = A at hD ⊢
  have hA : ∀ q : Nat, s.heap.size ≤ q → A q := fun q h => by rw [← hAe]; exact Or.inr h
  have hS : va_S A s.heap s.heap [] := va_S.rf
  have hP : va_P (dC, dI) vwCl (qyr a0 jha jhi jlc jld jkJ jiT jj1 jjT jaN ja4 jaP jkk a1 jbF jb3 jhR jeF jcI jcU jbM jbF cyB jcq jha cyI jiR jhi cyI jiP) s.heap := hP
  have hl := lv_entry ([.ref a0, .ref a1, .int p2]) (n := 3) (nbq rfl)
  rw [lg_entry_eq]
  generalize (lg_sl ([.ref a0, .ref a1, .int p2]) ++ List.replicate (3 - (lg_sl ([.ref a0, .ref a1, .int p2])).length) Slot.unset).toArray = ls at hl ⊢
  have hl : lv_has ls 3 [(0, .ref a0), (1, .ref a1), (2, .int p2)] := hl
  have C0 : cfx p s m _ meth c cX2_readForm none wsX2_readForm RX2 3 A (dC, dI) (kT cyB cyI cyJ cyP) := ⟨hx, hb, hr, hts, hown, hlocks, hml, hA, hK, hNw⟩
  clear hAe
  obtain ⟨H, hH⟩ : ∃ H, H = s.heap := ⟨_, rfl⟩
  rw [← hH] at hP ⊢
  have hS : va_S A s.heap H [] := by rw [hH]; exact va_S.rf
  have hS := hS
  refine lv_iload_n hx hb (qaa qf7 0 rfl) rfl (lv_at hl 2 rfl) ?_
  refine lv_if_ne (tgt := 13) hx hb (qaa qf7 1 rfl) (by decide) (fun c1 => ?_) (fun c1 => ?_)
  · have hw := hw.1 c1
    exact qU9 dC dI cyB cyI cyJ cyP a0 a1 jha jbF jhi jlc jld jkJ jiT jj1 jjT ja4 jaP jkk jcI jb3 jcq Q C0 _ _ _ jhR jcU jbM jeF jiR jiP jaN hP hD hS (lv_sub hl [1] rfl) hw
  · have hw := hw.2 c1
    refine lv_aload_n hx hb (qaa qf7 2 rfl) rfl (lv_at hl 0 rfl) ?_
    refine va_get (D := (dC, dI)) (ci := 2) (v := .int jaN) (C := RX2) (T := TX2) (N := 12) hx hb hts qte hown hK hP 0 rfl rfl 8 (by decide) (hts _ qxk) (fun _ h9 => h9) rfl (qaa qf7 3 rfl) ?_
    refine lv_bipush (v := 8) hx hb (qaa qf7 4 rfl) (by decide) ?_
    refine lv_icmp_lt (tgt := 19) hx hb (qaa qf7 5 rfl) (by decide) (fun c2 => ?_) (fun c2 => ?_)
    · have hw := hw.1 c2
      refine lv_aload_n hx hb (qaa qf7 10 rfl) rfl (lv_at hl 0 rfl) ?_
      refine va_get (D := (dC, dI)) (ci := 2) (v := .ref jha) (C := RX2) (T := TX2) (N := 12) hx hb hts qte hown hK hP 0 rfl rfl 0 (by decide) (hts _ qamp) (fun _ h9 => h9) rfl (qaa qf7 11 rfl) ?_
      refine lv_aload_n hx hb (qaa qf7 12 rfl) rfl (lv_at hl 0 rfl) ?_
      refine va_get (D := (dC, dI)) (ci := 2) (v := .int jaN) (C := RX2) (T := TX2) (N := 12) hx hb hts qte hown hK hP 0 rfl rfl 8 (by decide) (hts _ qxk) (fun _ h9 => h9) rfl (qaa qf7 13 rfl) ?_
      refine lv_aload_n hx hb (qaa qf7 14 rfl) rfl (lv_at hl 1 rfl) ?_
      refine lv_iconst (v := 0) hx hb (qaa qf7 15 rfl) (by decide) ?_
      refine lv_bipush (v := 30) hx hb (qaa qew 0 rfl) (by decide) ?_
      obtain ⟨hCc, hPc, hDc, hFc⟩ := qac (ws' := (quf a1 jbF jb3 jhR jeF jcI jcU jbM jbF cyB jcq)) hP hD hS hA [1, 2] (by decide +kernel) rfl
      refine va_calli (va_runV (As := [.int 0, .int 30]) (rest := [.int jaN, .ref jha]) ⟨hx, hb, hml, hown, hts⟩ (qia l dC dI cyB cyI cyJ cyP a1 jbF H.size (jcI) jb3 jcq jhR jcU jbM jeF 0 30 hw) (cwV 2 hts gX2_readForm_X8_number rfl rfl rfl (by decide +kernel) ⟨nbq rfl, nbq rfl⟩) ⟨qab, va_recv (q := (RX8, TX8, 7)) hK hPc (ci := 8) (q0 := 0) rfl rfl, qae hPc hK hDc hNw⟩ rfl rfl hl.1 rfl (lv_room (nbq rfl)) (qaa qew 1 rfl) ⟨nbq rfl, nbq rfl⟩) hS (fun q _ h => hFc q h) hFc (fun r7 u t H1 locs ht hvm hw hB hz1 hk1 hS => ?_)
      obtain ⟨x3, x4, x5, x6⟩ := u
      obtain ⟨hP1, hK1, hD1⟩ := hB
      rw [ht] at hP1
      obtain ⟨hP, hD⟩ := qad (wr := (qaXr a0 jha jhi jlc jld jkJ jiT jj1 jjT jaN ja4 jaP jkk jha cyI jiR jhi cyI jiP)) (w1 := (quf a1 jbF jb3 x3 x6 jcI x4 x5 jbF cyB jcq)) (wn := (qyr a0 jha jhi jlc jld jkJ jiT jj1 jjT jaN ja4 jaP jkk a1 jbF jb3 x3 x6 jcI x4 x5 jbF cyB jcq jha cyI jiR jhi cyI jiP)) hP hD [1, 2] [0, 3, 4] [0, 3, 4, 1, 2] hCc rfl (by decide +kernel) (by decide +kernel) (by decide +kernel) rfl hk1 hFc hP1 hD1
      generalize H1 = H at hP hS ⊢
      obtain ⟨hi9, hw⟩ := hw
      refine va_iast hx hb hK hP hD hS 3 1 rfl rfl hi9 (qaa qew 2 rfl) (fun H locs hP hD hS => ?_)
      obtain ⟨f8, ef8⟩ : ∃ y : NI, y = upd jiR jaN.toNatClampNeg r7 := ⟨_, rfl⟩
      have hw := hw f8 ef8
      have hP : va_P (dC, dI) vwCl (qyr a0 jha jhi jlc jld jkJ jiT jj1 jjT jaN ja4 jaP jkk a1 jbF jb3 x3 x6 jcI x4 x5 jbF cyB jcq jha cyI f8 jhi cyI jiP) H := by rw [ef8]; exact hP
      have hD : va_D A (qyr a0 jha jhi jlc jld jkJ jiT jj1 jjT jaN ja4 jaP jkk a1 jbF jb3 x3 x6 jcI x4 x5 jbF cyB jcq jha cyI f8 jhi cyI jiP) := by rw [ef8]; exact hD
      refine lv_aload_n hx hb (qaa qew 3 rfl) rfl (lv_at hl 0 rfl) ?_
      refine va_get (D := (dC, dI)) (ci := 2) (v := .ref jhi) (C := RX2) (T := TX2) (N := 12) hx hb hts qte hown hK hP 0 rfl rfl 1 (by decide) (hts _ qahq) (fun _ h9 => h9) rfl (qaa qew 4 rfl) ?_
      refine lv_aload_n hx hb (qaa qew 5 rfl) rfl (lv_at hl 0 rfl) ?_
      refine va_get (D := (dC, dI)) (ci := 2) (v := .int jaN) (C := RX2) (T := TX2) (N := 12) hx hb hts qte hown hK hP 0 rfl rfl 8 (by decide) (hts _ qxk) (fun _ h9 => h9) rfl (qaa qew 6 rfl) ?_
      refine lv_aload_n hx hb (qaa qew 7 rfl) rfl (lv_at hl 1 rfl) ?_
      refine lv_iconst (v := 0) hx hb (qaa qew 8 rfl) (by decide) ?_
      refine lv_bipush (v := 30) hx hb (qaa qew 9 rfl) (by decide) ?_
      obtain ⟨hCc, hPc, hDc, hFc⟩ := qac (ws' := (quf a1 jbF jb3 x3 x6 jcI x4 x5 jbF cyB jcq)) hP hD hS hA [1, 2] (by decide +kernel) rfl
      refine va_calli (va_runV (As := [.int 0, .int 30]) (rest := [.int jaN, .ref jhi]) ⟨hx, hb, hml, hown, hts⟩ (qia l dC dI cyB cyI cyJ cyP a1 jbF H.size (jcI) jb3 jcq x3 x4 x5 x6 0 30 hw) (cwV 2 hts gX2_readForm_X8_number rfl rfl rfl (by decide +kernel) ⟨nbq rfl, nbq rfl⟩) ⟨qab, va_recv (q := (RX8, TX8, 7)) hK hPc (ci := 8) (q0 := 0) rfl rfl, qae hPc hK hDc hNw⟩ rfl rfl hl.1 rfl (lv_room (nbq rfl)) (qaa qew 10 rfl) ⟨nbq rfl, nbq rfl⟩) hS (fun q _ h => hFc q h) hFc (fun r13 u t H1 locs ht hvm hw hB hz1 hk1 hS => ?_)
      obtain ⟨x9, x10, x11, x12⟩ := u
      obtain ⟨hP1, hK1, hD1⟩ := hB
      rw [ht] at hP1
      obtain ⟨hP, hD⟩ := qad (wr := (qaXr a0 jha jhi jlc jld jkJ jiT jj1 jjT jaN ja4 jaP jkk jha cyI f8 jhi cyI jiP)) (w1 := (quf a1 jbF jb3 x9 x12 jcI x10 x11 jbF cyB jcq)) (wn := (qyr a0 jha jhi jlc jld jkJ jiT jj1 jjT jaN ja4 jaP jkk a1 jbF jb3 x9 x12 jcI x10 x11 jbF cyB jcq jha cyI f8 jhi cyI jiP)) hP hD [1, 2] [0, 3, 4] [0, 3, 4, 1, 2] hCc rfl (by decide +kernel) (by decide +kernel) (by decide +kernel) rfl hk1 hFc hP1 hD1
      generalize H1 = H at hP hS ⊢
      obtain ⟨hi9, hw⟩ := hw
      refine va_iast hx hb hK hP hD hS 4 1 rfl rfl hi9 (qaa qew 11 rfl) (fun H locs hP hD hS => ?_)
      obtain ⟨f14, ef14⟩ : ∃ y : NI, y = upd jiP jaN.toNatClampNeg r13 := ⟨_, rfl⟩
      have hw := hw f14 ef14
      have hP : va_P (dC, dI) vwCl (qyr a0 jha jhi jlc jld jkJ jiT jj1 jjT jaN ja4 jaP jkk a1 jbF jb3 x9 x12 jcI x10 x11 jbF cyB jcq jha cyI f8 jhi cyI f14) H := by rw [ef14]; exact hP
      have hD : va_D A (qyr a0 jha jhi jlc jld jkJ jiT jj1 jjT jaN ja4 jaP jkk a1 jbF jb3 x9 x12 jcI x10 x11 jbF cyB jcq jha cyI f8 jhi cyI f14) := by rw [ef14]; exact hD
      refine lv_aload_n hx hb (qaa qew 12 rfl) rfl (lv_at hl 1 rfl) ?_
      refine lv_bipush (v := 59) hx hb (qaa qew 13 rfl) (by decide) ?_
      obtain ⟨hCc, hPc, hDc, hFc⟩ := qac (ws' := (quf a1 jbF jb3 x9 x12 jcI x10 x11 jbF cyB jcq)) hP hD hS hA [1, 2] (by decide +kernel) rfl
      refine va_callv (va_runV (As := [.int 59]) (rest := []) ⟨hx, hb, hml, hown, hts⟩ (qsY l dC dI cyB cyI cyJ cyP a1 jbF H.size (jcI) jb3 jcq x9 x12 x10 x11 59 hw) (cwV 1 hts gX2_readForm_X8_needs rfl rfl rfl (by decide +kernel) ⟨nbq rfl, nbq rfl⟩) ⟨qab, va_recv (q := (RX8, TX8, 7)) hK hPc (ci := 8) (q0 := 0) rfl rfl, qae hPc hK hDc hNw⟩ rfl rfl hl.1 rfl (lv_room (nbq rfl)) (qaa qew 14 rfl) ⟨nbq rfl, nbq rfl⟩) hS (fun q _ h => hFc q h) hFc (fun u t H1 locs ht hvm hw hB hz1 hk1 hS => ?_)
      obtain ⟨x15, x16, x17, x18⟩ := u
      obtain ⟨hP1, hK1, hD1⟩ := hB
      rw [ht] at hP1
      obtain ⟨hP, hD⟩ := qad (wr := (qaXr a0 jha jhi jlc jld jkJ jiT jj1 jjT jaN ja4 jaP jkk jha cyI f8 jhi cyI f14)) (w1 := (quf a1 jbF jb3 x15 x16 jcI x17 x18 jbF cyB jcq)) (wn := (qyr a0 jha jhi jlc jld jkJ jiT jj1 jjT jaN ja4 jaP jkk a1 jbF jb3 x15 x16 jcI x17 x18 jbF cyB jcq jha cyI f8 jhi cyI f14)) hP hD [1, 2] [0, 3, 4] [0, 3, 4, 1, 2] hCc rfl (by decide +kernel) (by decide +kernel) (by decide +kernel) rfl hk1 hFc hP1 hD1
      generalize H1 = H at hP hS ⊢
      refine lv_aload_n hx hb (qaa qew 15 rfl) rfl (lv_at hl 0 rfl) ?_
      refine lv_dup hx hb (qaa qvv 0 rfl) rfl ?_
      refine va_get (D := (dC, dI)) (ci := 2) (v := .int jaN) (C := RX2) (T := TX2) (N := 12) hx hb hts qte hown hK hP 0 rfl rfl 8 (by decide) (hts _ qxk) (fun _ h9 => h9) rfl (qaa qvv 1 rfl) ?_
      refine lv_iconst (v := 1) hx hb (qaa qvv 2 rfl) (by decide) ?_
      refine lv_iadd hx hb (qaa qvv 3 rfl) ?_
      refine lv_topi (fun x19 ex19 => ?_)
      have hw := hw x19 ex19
      refine va_put (D := (dC, dI)) (ci := 2) (v := .int x19) (ty := .int) (C := RX2) (T := TX2) (N := 12) hx hb hts qte tyX2 tyX2_ok nmX2 hown hK hP hD hS 0 rfl rfl 8 (by decide) (hts _ qxk) (fun _ h9 => h9) rfl (by decide +kernel) rfl rfl (nbq rfl) (qaa qvv 4 rfl) (fun H locs hP hD hS => ?_)
      have hP : va_P (dC, dI) vwCl (qyr a0 jha jhi jlc jld jkJ jiT jj1 jjT x19 ja4 jaP jkk a1 jbF jb3 x15 x16 jcI x17 x18 jbF cyB jcq jha cyI f8 jhi cyI f14) H := hP
      have hD : va_D A (qyr a0 jha jhi jlc jld jkJ jiT jj1 jjT x19 ja4 jaP jkk a1 jbF jb3 x15 x16 jcI x17 x18 jbF cyB jcq jha cyI f8 jhi cyI f14) := hD
      exact ((W.vret hx hb hr (fun t ht hW => ⟨⟨(x15, x17, x18, x16, f8, f14, x19), rfl, hw, by rw [ht]; exact hP, va_K.moved hW.alike hK, hD⟩, hS.F ht⟩) hS.2.2 (qaa qvv 5 rfl)))
    · have hw := hw.2 c2
      exact qU9 dC dI cyB cyI cyJ cyP a0 a1 jha jbF jhi jlc jld jkJ jiT jj1 jjT ja4 jaP jkk jcI jb3 jcq Q C0 _ _ _ jhR jcU jbM jeF jiR jiP jaN hP hD hS (lv_sub hl [1] rfl) hw
theorem qrc : ∀ w ∈ u_ws RX2 TX2 12, w ∈ wsX2_readHare := uiM qrT qLg (by decide +kernel)
theorem qaeO : (.fieldLink RX2 24 "MarchHares$Down" "seat" "[I" : Cond) ∈ wsX2_readHare := qrT 192 (by decide +kernel)
theorem qafc : (.fieldLink RX2 27 "MarchHares$Down" "strength" "[I" : Cond) ∈ wsX2_readHare := qrT 193 (by decide +kernel)
theorem qag9 : (.fieldLink RX2 36 "MarchHares$Down" "forms" "I" : Cond) ∈ wsX2_readHare := qrT 720 (by decide +kernel)
theorem qwV : (.fieldLink RX2 40 "MarchHares$Down" "hares" "I" : Cond) ∈ wsX2_readHare := qrT 721 (by decide +kernel)
set_option maxHeartbeats 4000000 in
set_option maxRecDepth 100000 in
theorem qVg {p : Program} {l : Launch} {e : Env} {s : State} {m : MethodId} {args : Array Value} {below : List Frame} {meth : Method} {c : Code} {A : Nat → Prop} (dC : Nat → ClassId) (dI : Nat → Nat → Nat) (cyB cyI cyJ cyP : ClassId) (a0 a1 jla jbF jjy : Nat) (jmz jmA jlc jld jj1 jjT jaP jkk jcI : Value) (jaN jb3 : Int32) (jcq : NI) (Q : Int32 → Int32 → Int32 → Int32 → NI → NI → Int32 → Prop) (C0 : cfx p s m args meth c cX2_readHare none wsX2_readHare RX2 3 A (dC, dI) (kT cyB cyI cyJ cyP)) : ∀ (H : Heap) (locs : List Loc) (ls : Array Slot) (jhR jcU jbM jeF : Int32) (jms jlq : NI) (jaC : Int32), va_P (dC, dI) vwCl (qyT a0 jmz jmA jlc jld jla jjy jj1 jjT jaN jaC jaP jkk a1 jbF jb3 jhR jeF jcI jcU jbM jbF cyB jcq jla cyI jms jjy cyI jlq) H → va_D A (qyT a0 jmz jmA jlc jld jla jjy jj1 jjT jaN jaC jaP jkk a1 jbF jb3 jhR jeF jcI jcU jbM jbF cyB jcq jla cyI jms jjy cyI jlq) → va_S A s.heap H locs → lv_has ls 3 [(1, .ref a1)] → qCv jaN jb3 jcq Q jhR jcU jbM jeF jms jlq jaC → W p l e (headSpec wsX2_readHare ({ frames := 3, cells := 0, slots := 0, locals := 63 })).room s m args below meth c H locs 0 0 (MQ below (va_Qv (fun (u : Int32 × Int32 × Int32 × Int32 × NI × NI × Int32) => Q u.1 u.2.1 u.2.2.1 u.2.2.2.1 u.2.2.2.2.1 u.2.2.2.2.2.1 u.2.2.2.2.2.2) (cB (dC, dI) (kT cyB cyI cyJ cyP) A (fun u : Int32 × Int32 × Int32 × Int32 × NI × NI × Int32 => ((qyT a0 jmz jmA jlc jld jla jjy jj1 jjT jaN u.2.2.2.2.2.2 jaP jkk a1 jbF jb3 u.1 u.2.2.2.1 jcI u.2.1 u.2.2.1 jbF cyB jcq jla cyI u.2.2.2.2.1 jjy cyI u.2.2.2.2.2.1) : va_W))) A) args s 0 0 A) (F0 m 13 ls []) := by
  obtain ⟨hx, hb, hr, hts, hown, hlocks, hml, hA, hK, hNw⟩ := id C0
  intro H locs ls jhR jcU jbM jeF jms jlq jaC hP hD hS hl hw
  refine lv_aload_n hx hb (qaa qfV 6 rfl) rfl (lv_at hl 0 rfl) ?_
  refine lv_iconst (v := 3) hx hb (qaa qfV 7 rfl) (by decide) ?_
  obtain ⟨hCc, hPc, hDc, hFc⟩ := qac (ws' := (qMi a1 jbF jb3 jhR jeF jcI jcU jbM)) hP hD hS hA [1] (by decide +kernel) rfl
  refine va_callv (va_runV (As := [.int 3]) (rest := []) ⟨hx, hb, hml, hown, hts⟩ (qn6 l dC dI cyB cyI cyJ cyP a1 H.size (.ref jbF) (.int jb3) (.int jhR) (jcI) jeF jcU jbM 3 hw) (cwV 1 hts gX2_readHare_X8_blameToken rfl rfl rfl (by decide +kernel) ⟨nbq rfl, nbq rfl⟩) ⟨qab, va_recv (q := (RX8, TX8, 7)) hK hPc (ci := 8) (q0 := 0) rfl rfl, qae hPc hK hDc hNw⟩ rfl rfl hl.1 rfl (lv_room (nbq rfl)) (qaa qfV 8 rfl) ⟨nbq rfl, nbq rfl⟩) hS (fun q _ h => hFc q h) hFc (fun u t H1 locs ht hvm hw hB hz1 hk1 hS => ?_)
  obtain ⟨x20, x21⟩ := u
  obtain ⟨hP1, hK1, hD1⟩ := hB
  rw [ht] at hP1
  obtain ⟨hP, hD⟩ := qad (wr := [(a0, .inr (2, [jmz, jmA, jlc, jld, .ref jla, .ref jjy, jj1, jjT, .int jaN, .int jaC, jaP, jkk])), (jbF, .inl (cyB, 600, .inl jcq)), (jla, .inl (cyI, 6, .inl jms)), (jjy, .inl (cyI, 6, .inl jlq))]) (w1 := (qMi a1 jbF jb3 jhR jeF jcI x20 x21)) (wn := (qyT a0 jmz jmA jlc jld jla jjy jj1 jjT jaN jaC jaP jkk a1 jbF jb3 jhR jeF jcI x20 x21 jbF cyB jcq jla cyI jms jjy cyI jlq)) hP hD [1] [0, 2, 3, 4] [0, 4, 1, 2, 3] hCc rfl (by decide +kernel) (by decide +kernel) (by decide +kernel) rfl hk1 hFc hP1 hD1
  generalize H1 = H at hP hS ⊢
  exact ((W.vret hx hb hr (fun t ht hW => ⟨⟨(jhR, x20, x21, jeF, jms, jlq, jaC), rfl, hw, by rw [ht]; exact hP, va_K.moved hW.alike hK, hD⟩, hS.F ht⟩) hS.2.2 (qaa qfV 9 rfl)))
set_option maxHeartbeats 4000000 in
set_option maxRecDepth 100000 in
theorem qaKH (l : Launch) (dC : Nat → ClassId) (dI : Nat → Nat → Nat) (cyB cyI cyJ cyP : ClassId) (a0 a1 jla jbF jjy sz : Nat) (jmz jmA jlc jld jj1 jjT jaP jkk jcI : Value) (jaN jb3 : Int32) (jcq : NI) (jhR jcU jbM jeF : Int32) (jms jlq : NI) (jaC p2 : Int32) {Q : Int32 → Int32 → Int32 → Int32 → NI → NI → Int32 → Prop} (hw : qTv jaN jb3 jcq jhR jcU jbM jeF jms jlq jaC p2 Q) : Met l yX2_readHare wsX2_readHare ({ frames := 3, cells := 0, slots := 0, locals := 63 }) (va_Pc [.ref a0, .ref a1, .int p2] (cPc (dC, dI) (kT cyB cyI cyJ cyP) (qyT a0 jmz jmA jlc jld jla jjy jj1 jjT jaN jaC jaP jkk a1 jbF jb3 jhR jeF jcI jcU jbM jbF cyB jcq jla cyI jms jjy cyI jlq) sz)) (va_Qv (fun (u : Int32 × Int32 × Int32 × Int32 × NI × NI × Int32) => Q u.1 u.2.1 u.2.2.1 u.2.2.2.1 u.2.2.2.2.1 u.2.2.2.2.2.1 u.2.2.2.2.2.2) (cB (dC, dI) (kT cyB cyI cyJ cyP) (va_A (qyT a0 jmz jmA jlc jld jla jjy jj1 jjT jaN jaC jaP jkk a1 jbF jb3 jhR jeF jcI jcU jbM jbF cyB jcq jla cyI jms jjy cyI jlq) sz) (fun u : Int32 × Int32 × Int32 × Int32 × NI × NI × Int32 => ((qyT a0 jmz jmA jlc jld jla jjy jj1 jjT jaN u.2.2.2.2.2.2 jaP jkk a1 jbF jb3 u.1 u.2.2.2.1 jcI u.2.1 u.2.2.1 jbF cyB jcq jla cyI u.2.2.2.2.1 jjy cyI u.2.2.2.2.2.1) : va_W))) (va_A (qyT a0 jmz jmA jlc jld jla jjy jj1 jjT jaN jaC jaP jkk a1 jbF jb3 jhR jeF jcI jcU jbM jbF cyB jcq jla cyI jms jjy cyI jlq) sz)) 0 0 (va_A (qyT a0 jmz jmA jlc jld jla jjy jj1 jjT jaN jaC jaP jkk a1 jbF jb3 jhR jeF jcI jcU jbM jbF cyB jcq jla cyI jms jjy cyI jlq) sz) := by
  refine Met.ofW (cc := cX2_readHare) (maxL := 3) (ret := none) (by decide) rfl ?_
  intro p e s m args below meth c s₁ B hml hv
  obtain ⟨rfl, hsz, hP, hK, hD0, hNw⟩ := hv
  have hx := B.exec
  have hb := B.bytes
  have hr := B.returns
  have hts := atoms_spec (ws := wsX2_readHare) B.pre
  have hown : s.vm.findClass RX2 = some m.cls := findClass_of_methodNamed B.named
  have hlocks := B.notSynchronized
  subst hsz
  have hD := hD0.self (sz := s.heap.size)
  generalize hAe : va_A (qyT a0 jmz jmA jlc jld jla jjy jj1 jjT jaN jaC jaP jkk a1 jbF jb3 jhR jeF jcI jcU jbM jbF cyB jcq jla cyI jms jjy cyI jlq) s.heap.size = A at hD ⊢
  have hA : ∀ q : Nat, s.heap.size ≤ q → A q := fun q h => by rw [← hAe]; exact Or.inr h
  have hS : va_S A s.heap s.heap [] := va_S.rf
  have hP : va_P (dC, dI) vwCl (qyT a0 jmz jmA jlc jld jla jjy jj1 jjT jaN jaC jaP jkk a1 jbF jb3 jhR jeF jcI jcU jbM jbF cyB jcq jla cyI jms jjy cyI jlq) s.heap := hP
  have hl := lv_entry ([.ref a0, .ref a1, .int p2]) (n := 3) (nbq rfl)
  rw [lg_entry_eq]
  generalize (lg_sl ([.ref a0, .ref a1, .int p2]) ++ List.replicate (3 - (lg_sl ([.ref a0, .ref a1, .int p2])).length) Slot.unset).toArray = ls at hl ⊢
  have hl : lv_has ls 3 [(0, .ref a0), (1, .ref a1), (2, .int p2)] := hl
  have C0 : cfx p s m _ meth c cX2_readHare none wsX2_readHare RX2 3 A (dC, dI) (kT cyB cyI cyJ cyP) := ⟨hx, hb, hr, hts, hown, hlocks, hml, hA, hK, hNw⟩
  clear hAe
  obtain ⟨H, hH⟩ : ∃ H, H = s.heap := ⟨_, rfl⟩
  rw [← hH] at hP ⊢
  have hS : va_S A s.heap H [] := by rw [hH]; exact va_S.rf
  have hS := hS
  refine lv_iload_n hx hb (qaa qfV 0 rfl) rfl (lv_at hl 2 rfl) ?_
  refine lv_if_ne (tgt := 13) hx hb (qaa qfV 1 rfl) (by decide) (fun c1 => ?_) (fun c1 => ?_)
  · have hw := hw.1 c1
    exact qVg dC dI cyB cyI cyJ cyP a0 a1 jla jbF jjy jmz jmA jlc jld jj1 jjT jaP jkk jcI jaN jb3 jcq Q C0 _ _ _ jhR jcU jbM jeF jms jlq jaC hP hD hS (lv_sub hl [1] rfl) hw
  · have hw := hw.2 c1
    refine lv_aload_n hx hb (qaa qfV 2 rfl) rfl (lv_at hl 0 rfl) ?_
    refine va_get (D := (dC, dI)) (ci := 2) (v := .int jaC) (C := RX2) (T := TX2) (N := 12) hx hb hts qrc hown hK hP 0 rfl rfl 9 (by decide) (hts _ qwV) (fun _ h9 => h9) rfl (qaa qfV 3 rfl) ?_
    refine lv_bipush (v := 6) hx hb (qaa qfV 4 rfl) (by decide) ?_
    refine lv_icmp_lt (tgt := 19) hx hb (qaa qfV 5 rfl) (by decide) (fun c2 => ?_) (fun c2 => ?_)
    · have hw := hw.1 c2
      refine lv_aload_n hx hb (qaa qfV 10 rfl) rfl (lv_at hl 0 rfl) ?_
      refine va_get (D := (dC, dI)) (ci := 2) (v := .ref jla) (C := RX2) (T := TX2) (N := 12) hx hb hts qrc hown hK hP 0 rfl rfl 4 (by decide) (hts _ qaeO) (fun _ h9 => h9) rfl (qaa qfV 11 rfl) ?_
      refine lv_aload_n hx hb (qaa qfV 12 rfl) rfl (lv_at hl 0 rfl) ?_
      refine va_get (D := (dC, dI)) (ci := 2) (v := .int jaC) (C := RX2) (T := TX2) (N := 12) hx hb hts qrc hown hK hP 0 rfl rfl 9 (by decide) (hts _ qwV) (fun _ h9 => h9) rfl (qaa qfV 13 rfl) ?_
      refine lv_aload_n hx hb (qaa qfV 14 rfl) rfl (lv_at hl 1 rfl) ?_
      refine lv_iconst (v := 0) hx hb (qaa qfV 15 rfl) (by decide) ?_
      refine lv_aload_n hx hb (qaa qd3 0 rfl) rfl (lv_at hl 0 rfl) ?_
      refine va_get (D := (dC, dI)) (ci := 2) (v := .int jaN) (C := RX2) (T := TX2) (N := 12) hx hb hts qrc hown hK hP 0 rfl rfl 8 (by decide) (hts _ qag9) (fun _ h9 => h9) rfl (qaa qd3 1 rfl) ?_
      refine lv_iconst (v := 1) hx hb (qaa qd3 2 rfl) (by decide) ?_
      refine lv_isub hx hb (qaa qd3 3 rfl) ?_
      obtain ⟨hCc, hPc, hDc, hFc⟩ := qac (ws' := (quf a1 jbF jb3 jhR jeF jcI jcU jbM jbF cyB jcq)) hP hD hS hA [1, 2] (by decide +kernel) rfl
      refine va_calli (va_runV (As := [.int 0, .int (jaN - 1)]) (rest := [.int jaC, .ref jla]) ⟨hx, hb, hml, hown, hts⟩ (qia l dC dI cyB cyI cyJ cyP a1 jbF H.size (jcI) jb3 jcq jhR jcU jbM jeF 0 (jaN - 1) hw) (cwV 2 hts gX2_readHare_X8_number rfl rfl rfl (by decide +kernel) ⟨nbq rfl, nbq rfl⟩) ⟨qab, va_recv (q := (RX8, TX8, 7)) hK hPc (ci := 8) (q0 := 0) rfl rfl, qae hPc hK hDc hNw⟩ rfl rfl hl.1 rfl (lv_room (nbq rfl)) (qaa qd3 4 rfl) ⟨nbq rfl, nbq rfl⟩) hS (fun q _ h => hFc q h) hFc (fun r7 u t H1 locs ht hvm hw hB hz1 hk1 hS => ?_)
      obtain ⟨x3, x4, x5, x6⟩ := u
      obtain ⟨hP1, hK1, hD1⟩ := hB
      rw [ht] at hP1
      obtain ⟨hP, hD⟩ := qad (wr := (qaXq a0 jmz jmA jlc jld jla jjy jj1 jjT jaN jaC jaP jkk jla cyI jms jjy cyI jlq)) (w1 := (quf a1 jbF jb3 x3 x6 jcI x4 x5 jbF cyB jcq)) (wn := (qyT a0 jmz jmA jlc jld jla jjy jj1 jjT jaN jaC jaP jkk a1 jbF jb3 x3 x6 jcI x4 x5 jbF cyB jcq jla cyI jms jjy cyI jlq)) hP hD [1, 2] [0, 3, 4] [0, 3, 4, 1, 2] hCc rfl (by decide +kernel) (by decide +kernel) (by decide +kernel) rfl hk1 hFc hP1 hD1
      generalize H1 = H at hP hS ⊢
      obtain ⟨hi9, hw⟩ := hw
      refine va_iast hx hb hK hP hD hS 3 1 rfl rfl hi9 (qaa qd3 5 rfl) (fun H locs hP hD hS => ?_)
      obtain ⟨f8, ef8⟩ : ∃ y : NI, y = upd jms jaC.toNatClampNeg r7 := ⟨_, rfl⟩
      have hw := hw f8 ef8
      have hP : va_P (dC, dI) vwCl (qyT a0 jmz jmA jlc jld jla jjy jj1 jjT jaN jaC jaP jkk a1 jbF jb3 x3 x6 jcI x4 x5 jbF cyB jcq jla cyI f8 jjy cyI jlq) H := by rw [ef8]; exact hP
      have hD : va_D A (qyT a0 jmz jmA jlc jld jla jjy jj1 jjT jaN jaC jaP jkk a1 jbF jb3 x3 x6 jcI x4 x5 jbF cyB jcq jla cyI f8 jjy cyI jlq) := by rw [ef8]; exact hD
      refine lv_aload_n hx hb (qaa qd3 6 rfl) rfl (lv_at hl 0 rfl) ?_
      refine va_get (D := (dC, dI)) (ci := 2) (v := .ref jjy) (C := RX2) (T := TX2) (N := 12) hx hb hts qrc hown hK hP 0 rfl rfl 5 (by decide) (hts _ qafc) (fun _ h9 => h9) rfl (qaa qd3 7 rfl) ?_
      refine lv_aload_n hx hb (qaa qd3 8 rfl) rfl (lv_at hl 0 rfl) ?_
      refine va_get (D := (dC, dI)) (ci := 2) (v := .int jaC) (C := RX2) (T := TX2) (N := 12) hx hb hts qrc hown hK hP 0 rfl rfl 9 (by decide) (hts _ qwV) (fun _ h9 => h9) rfl (qaa qd3 9 rfl) ?_
      refine lv_aload_n hx hb (qaa qd3 10 rfl) rfl (lv_at hl 1 rfl) ?_
      refine lv_iconst (v := 1) hx hb (qaa qd3 11 rfl) (by decide) ?_
      refine lv_bipush (v := 9) hx hb (qaa qd3 12 rfl) (by decide) ?_
      obtain ⟨hCc, hPc, hDc, hFc⟩ := qac (ws' := (quf a1 jbF jb3 x3 x6 jcI x4 x5 jbF cyB jcq)) hP hD hS hA [1, 2] (by decide +kernel) rfl
      refine va_calli (va_runV (As := [.int 1, .int 9]) (rest := [.int jaC, .ref jjy]) ⟨hx, hb, hml, hown, hts⟩ (qia l dC dI cyB cyI cyJ cyP a1 jbF H.size (jcI) jb3 jcq x3 x4 x5 x6 1 9 hw) (cwV 2 hts gX2_readHare_X8_number rfl rfl rfl (by decide +kernel) ⟨nbq rfl, nbq rfl⟩) ⟨qab, va_recv (q := (RX8, TX8, 7)) hK hPc (ci := 8) (q0 := 0) rfl rfl, qae hPc hK hDc hNw⟩ rfl rfl hl.1 rfl (lv_room (nbq rfl)) (qaa qd3 13 rfl) ⟨nbq rfl, nbq rfl⟩) hS (fun q _ h => hFc q h) hFc (fun r13 u t H1 locs ht hvm hw hB hz1 hk1 hS => ?_)
      obtain ⟨x9, x10, x11, x12⟩ := u
      obtain ⟨hP1, hK1, hD1⟩ := hB
      rw [ht] at hP1
      obtain ⟨hP, hD⟩ := qad (wr := (qaXq a0 jmz jmA jlc jld jla jjy jj1 jjT jaN jaC jaP jkk jla cyI f8 jjy cyI jlq)) (w1 := (quf a1 jbF jb3 x9 x12 jcI x10 x11 jbF cyB jcq)) (wn := (qyT a0 jmz jmA jlc jld jla jjy jj1 jjT jaN jaC jaP jkk a1 jbF jb3 x9 x12 jcI x10 x11 jbF cyB jcq jla cyI f8 jjy cyI jlq)) hP hD [1, 2] [0, 3, 4] [0, 3, 4, 1, 2] hCc rfl (by decide +kernel) (by decide +kernel) (by decide +kernel) rfl hk1 hFc hP1 hD1
      generalize H1 = H at hP hS ⊢
      obtain ⟨hi9, hw⟩ := hw
      refine va_iast hx hb hK hP hD hS 4 1 rfl rfl hi9 (qaa qd3 14 rfl) (fun H locs hP hD hS => ?_)
      obtain ⟨f14, ef14⟩ : ∃ y : NI, y = upd jlq jaC.toNatClampNeg r13 := ⟨_, rfl⟩
      have hw := hw f14 ef14
      have hP : va_P (dC, dI) vwCl (qyT a0 jmz jmA jlc jld jla jjy jj1 jjT jaN jaC jaP jkk a1 jbF jb3 x9 x12 jcI x10 x11 jbF cyB jcq jla cyI f8 jjy cyI f14) H := by rw [ef14]; exact hP
      have hD : va_D A (qyT a0 jmz jmA jlc jld jla jjy jj1 jjT jaN jaC jaP jkk a1 jbF jb3 x9 x12 jcI x10 x11 jbF cyB jcq jla cyI f8 jjy cyI f14) := by rw [ef14]; exact hD
      refine lv_aload_n hx hb (qaa qd3 15 rfl) rfl (lv_at hl 1 rfl) ?_
      refine lv_bipush (v := 59) hx hb (qaa qpy 0 rfl) (by decide) ?_
      obtain ⟨hCc, hPc, hDc, hFc⟩ := qac (ws' := (quf a1 jbF jb3 x9 x12 jcI x10 x11 jbF cyB jcq)) hP hD hS hA [1, 2] (by decide +kernel) rfl
      refine va_callv (va_runV (As := [.int 59]) (rest := []) ⟨hx, hb, hml, hown, hts⟩ (qsY l dC dI cyB cyI cyJ cyP a1 jbF H.size (jcI) jb3 jcq x9 x12 x10 x11 59 hw) (cwV 1 hts gX2_readHare_X8_needs rfl rfl rfl (by decide +kernel) ⟨nbq rfl, nbq rfl⟩) ⟨qab, va_recv (q := (RX8, TX8, 7)) hK hPc (ci := 8) (q0 := 0) rfl rfl, qae hPc hK hDc hNw⟩ rfl rfl hl.1 rfl (lv_room (nbq rfl)) (qaa qpy 1 rfl) ⟨nbq rfl, nbq rfl⟩) hS (fun q _ h => hFc q h) hFc (fun u t H1 locs ht hvm hw hB hz1 hk1 hS => ?_)
      obtain ⟨x15, x16, x17, x18⟩ := u
      obtain ⟨hP1, hK1, hD1⟩ := hB
      rw [ht] at hP1
      obtain ⟨hP, hD⟩ := qad (wr := (qaXq a0 jmz jmA jlc jld jla jjy jj1 jjT jaN jaC jaP jkk jla cyI f8 jjy cyI f14)) (w1 := (quf a1 jbF jb3 x15 x16 jcI x17 x18 jbF cyB jcq)) (wn := (qyT a0 jmz jmA jlc jld jla jjy jj1 jjT jaN jaC jaP jkk a1 jbF jb3 x15 x16 jcI x17 x18 jbF cyB jcq jla cyI f8 jjy cyI f14)) hP hD [1, 2] [0, 3, 4] [0, 3, 4, 1, 2] hCc rfl (by decide +kernel) (by decide +kernel) (by decide +kernel) rfl hk1 hFc hP1 hD1
      generalize H1 = H at hP hS ⊢
      refine lv_aload_n hx hb (qaa qpy 2 rfl) rfl (lv_at hl 0 rfl) ?_
      refine lv_dup hx hb (qaa qpy 3 rfl) rfl ?_
      refine va_get (D := (dC, dI)) (ci := 2) (v := .int jaC) (C := RX2) (T := TX2) (N := 12) hx hb hts qrc hown hK hP 0 rfl rfl 9 (by decide) (hts _ qwV) (fun _ h9 => h9) rfl (qaa qpy 4 rfl) ?_
      refine lv_iconst (v := 1) hx hb (qaa qpy 5 rfl) (by decide) ?_
      refine lv_iadd hx hb (qaa qpy 6 rfl) ?_
      refine lv_topi (fun x19 ex19 => ?_)
      have hw := hw x19 ex19
      refine va_put (D := (dC, dI)) (ci := 2) (v := .int x19) (ty := .int) (C := RX2) (T := TX2) (N := 12) hx hb hts qrc tyX2 tyX2_ok nmX2 hown hK hP hD hS 0 rfl rfl 9 (by decide) (hts _ qwV) (fun _ h9 => h9) rfl (by decide +kernel) rfl rfl (nbq rfl) (qaa qpy 7 rfl) (fun H locs hP hD hS => ?_)
      have hP : va_P (dC, dI) vwCl (qyT a0 jmz jmA jlc jld jla jjy jj1 jjT jaN x19 jaP jkk a1 jbF jb3 x15 x16 jcI x17 x18 jbF cyB jcq jla cyI f8 jjy cyI f14) H := hP
      have hD : va_D A (qyT a0 jmz jmA jlc jld jla jjy jj1 jjT jaN x19 jaP jkk a1 jbF jb3 x15 x16 jcI x17 x18 jbF cyB jcq jla cyI f8 jjy cyI f14) := hD
      exact ((W.vret hx hb hr (fun t ht hW => ⟨⟨(x15, x17, x18, x16, f8, f14, x19), rfl, hw, by rw [ht]; exact hP, va_K.moved hW.alike hK, hD⟩, hS.F ht⟩) hS.2.2 (qaa qpy 8 rfl)))
    · have hw := hw.2 c2
      exact qVg dC dI cyB cyI cyJ cyP a0 a1 jla jbF jjy jmz jmA jlc jld jj1 jjT jaP jkk jcI jaN jb3 jcq Q C0 _ _ _ jhR jcU jbM jeF jms jlq jaC hP hD hS (lv_sub hl [1] rfl) hw
theorem quG : ∀ w ∈ u_ws RX2 TX2 12, w ∈ wsX2_readFox := uiM qvo qLg (by decide +kernel)
theorem qamJ : (.fieldLink RX2 18 "MarchHares$Down" "foxX" "[I" : Cond) ∈ wsX2_readFox := qvo 150 (by decide +kernel)
theorem qang : (.fieldLink RX2 21 "MarchHares$Down" "foxY" "[I" : Cond) ∈ wsX2_readFox := qvo 151 (by decide +kernel)
theorem qyW : (.fieldLink RX2 43 "MarchHares$Down" "foxes" "I" : Cond) ∈ wsX2_readFox := qvo 722 (by decide +kernel)
set_option maxHeartbeats 4000000 in
set_option maxRecDepth 100000 in
theorem qZt {p : Program} {l : Launch} {e : Env} {s : State} {m : MethodId} {args : Array Value} {below : List Frame} {meth : Method} {c : Code} {A : Nat → Prop} (dC : Nat → ClassId) (dI : Nat → Nat → Nat) (cyB cyI cyJ cyP : ClassId) (a0 a1 jjQ jbF jjU : Nat) (jmz jmA jkJ jiT jj1 jjT ja0 ja4 jkk jcI : Value) (jb3 : Int32) (jcq : NI) (Q : Int32 → Int32 → Int32 → Int32 → NI → NI → Int32 → Prop) (C0 : cfx p s m args meth c cX2_readFox none wsX2_readFox RX2 3 A (dC, dI) (kT cyB cyI cyJ cyP)) : ∀ (H : Heap) (locs : List Loc) (ls : Array Slot) (jhR jcU jbM jeF : Int32) (jlB jlx : NI) (jbw : Int32), va_P (dC, dI) vwCl (qyc a0 jmz jmA jjQ jjU jkJ jiT jj1 jjT ja0 ja4 jbw jkk a1 jbF jb3 jhR jeF jcI jcU jbM jbF cyB jcq jjQ cyI jlB jjU cyI jlx) H → va_D A (qyc a0 jmz jmA jjQ jjU jkJ jiT jj1 jjT ja0 ja4 jbw jkk a1 jbF jb3 jhR jeF jcI jcU jbM jbF cyB jcq jjQ cyI jlB jjU cyI jlx) → va_S A s.heap H locs → lv_has ls 3 [(1, .ref a1)] → qEB jb3 jcq Q jhR jcU jbM jeF jlB jlx jbw → W p l e (headSpec wsX2_readFox ({ frames := 3, cells := 0, slots := 0, locals := 63 })).room s m args below meth c H locs 0 0 (MQ below (va_Qv (fun (u : Int32 × Int32 × Int32 × Int32 × NI × NI × Int32) => Q u.1 u.2.1 u.2.2.1 u.2.2.2.1 u.2.2.2.2.1 u.2.2.2.2.2.1 u.2.2.2.2.2.2) (cB (dC, dI) (kT cyB cyI cyJ cyP) A (fun u : Int32 × Int32 × Int32 × Int32 × NI × NI × Int32 => ((qyc a0 jmz jmA jjQ jjU jkJ jiT jj1 jjT ja0 ja4 u.2.2.2.2.2.2 jkk a1 jbF jb3 u.1 u.2.2.2.1 jcI u.2.1 u.2.2.1 jbF cyB jcq jjQ cyI u.2.2.2.2.1 jjU cyI u.2.2.2.2.2.1) : va_W))) A) args s 0 0 A) (F0 m 12 ls []) := by
  obtain ⟨hx, hb, hr, hts, hown, hlocks, hml, hA, hK, hNw⟩ := id C0
  intro H locs ls jhR jcU jbM jeF jlB jlx jbw hP hD hS hl hw
  refine lv_aload_n hx hb (qaa qhl 6 rfl) rfl (lv_at hl 0 rfl) ?_
  refine lv_iconst (v := 3) hx hb (qaa qhl 7 rfl) (by decide) ?_
  obtain ⟨hCc, hPc, hDc, hFc⟩ := qac (ws' := (qMi a1 jbF jb3 jhR jeF jcI jcU jbM)) hP hD hS hA [1] (by decide +kernel) rfl
  refine va_callv (va_runV (As := [.int 3]) (rest := []) ⟨hx, hb, hml, hown, hts⟩ (qn6 l dC dI cyB cyI cyJ cyP a1 H.size (.ref jbF) (.int jb3) (.int jhR) (jcI) jeF jcU jbM 3 hw) (cwV 1 hts gX2_readFox_X8_blameToken rfl rfl rfl (by decide +kernel) ⟨nbq rfl, nbq rfl⟩) ⟨qab, va_recv (q := (RX8, TX8, 7)) hK hPc (ci := 8) (q0 := 0) rfl rfl, qae hPc hK hDc hNw⟩ rfl rfl hl.1 rfl (lv_room (nbq rfl)) (qaa qhl 8 rfl) ⟨nbq rfl, nbq rfl⟩) hS (fun q _ h => hFc q h) hFc (fun u t H1 locs ht hvm hw hB hz1 hk1 hS => ?_)
  obtain ⟨x20, x21⟩ := u
  obtain ⟨hP1, hK1, hD1⟩ := hB
  rw [ht] at hP1
  obtain ⟨hP, hD⟩ := qad (wr := [(a0, .inr (2, [jmz, jmA, .ref jjQ, .ref jjU, jkJ, jiT, jj1, jjT, ja0, ja4, .int jbw, jkk])), (jbF, .inl (cyB, 600, .inl jcq)), (jjQ, .inl (cyI, 4, .inl jlB)), (jjU, .inl (cyI, 4, .inl jlx))]) (w1 := (qMi a1 jbF jb3 jhR jeF jcI x20 x21)) (wn := (qyc a0 jmz jmA jjQ jjU jkJ jiT jj1 jjT ja0 ja4 jbw jkk a1 jbF jb3 jhR jeF jcI x20 x21 jbF cyB jcq jjQ cyI jlB jjU cyI jlx)) hP hD [1] [0, 2, 3, 4] [0, 4, 1, 2, 3] hCc rfl (by decide +kernel) (by decide +kernel) (by decide +kernel) rfl hk1 hFc hP1 hD1
  generalize H1 = H at hP hS ⊢
  exact ((W.vret hx hb hr (fun t ht hW => ⟨⟨(jhR, x20, x21, jeF, jlB, jlx, jbw), rfl, hw, by rw [ht]; exact hP, va_K.moved hW.alike hK, hD⟩, hS.F ht⟩) hS.2.2 (qaa qhl 9 rfl)))
set_option maxHeartbeats 4000000 in
set_option maxRecDepth 100000 in
theorem qaMk (l : Launch) (dC : Nat → ClassId) (dI : Nat → Nat → Nat) (cyB cyI cyJ cyP : ClassId) (a0 a1 jjQ jbF jjU sz : Nat) (jmz jmA jkJ jiT jj1 jjT ja0 ja4 jkk jcI : Value) (jb3 : Int32) (jcq : NI) (jhR jcU jbM jeF : Int32) (jlB jlx : NI) (jbw p2 : Int32) {Q : Int32 → Int32 → Int32 → Int32 → NI → NI → Int32 → Prop} (hw : qYp jb3 jcq jhR jcU jbM jeF jlB jlx jbw p2 Q) : Met l yX2_readFox wsX2_readFox ({ frames := 3, cells := 0, slots := 0, locals := 63 }) (va_Pc [.ref a0, .ref a1, .int p2] (cPc (dC, dI) (kT cyB cyI cyJ cyP) (qyc a0 jmz jmA jjQ jjU jkJ jiT jj1 jjT ja0 ja4 jbw jkk a1 jbF jb3 jhR jeF jcI jcU jbM jbF cyB jcq jjQ cyI jlB jjU cyI jlx) sz)) (va_Qv (fun (u : Int32 × Int32 × Int32 × Int32 × NI × NI × Int32) => Q u.1 u.2.1 u.2.2.1 u.2.2.2.1 u.2.2.2.2.1 u.2.2.2.2.2.1 u.2.2.2.2.2.2) (cB (dC, dI) (kT cyB cyI cyJ cyP) (va_A (qyc a0 jmz jmA jjQ jjU jkJ jiT jj1 jjT ja0 ja4 jbw jkk a1 jbF jb3 jhR jeF jcI jcU jbM jbF cyB jcq jjQ cyI jlB jjU cyI jlx) sz) (fun u : Int32 × Int32 × Int32 × Int32 × NI × NI × Int32 => ((qyc a0 jmz jmA jjQ jjU jkJ jiT jj1 jjT ja0 ja4 u.2.2.2.2.2.2 jkk a1 jbF jb3 u.1 u.2.2.2.1 jcI u.2.1 u.2.2.1 jbF cyB jcq jjQ cyI u.2.2.2.2.1 jjU cyI u.2.2.2.2.2.1) : va_W))) (va_A (qyc a0 jmz jmA jjQ jjU jkJ jiT jj1 jjT ja0 ja4 jbw jkk a1 jbF jb3 jhR jeF jcI jcU jbM jbF cyB jcq jjQ cyI jlB jjU cyI jlx) sz)) 0 0 (va_A (qyc a0 jmz jmA jjQ jjU jkJ jiT jj1 jjT ja0 ja4 jbw jkk a1 jbF jb3 jhR jeF jcI jcU jbM jbF cyB jcq jjQ cyI jlB jjU cyI jlx) sz) := by
  refine Met.ofW (cc := cX2_readFox) (maxL := 3) (ret := none) (by decide) rfl ?_
  intro p e s m args below meth c s₁ B hml hv
  obtain ⟨rfl, hsz, hP, hK, hD0, hNw⟩ := hv
  have hx := B.exec
  have hb := B.bytes
  have hr := B.returns
  have hts := atoms_spec (ws := wsX2_readFox) B.pre
  have hown : s.vm.findClass RX2 = some m.cls := findClass_of_methodNamed B.named
  have hlocks := B.notSynchronized
  subst hsz
  have hD := hD0.self (sz := s.heap.size)
  generalize hAe : va_A (qyc a0 jmz jmA jjQ jjU jkJ jiT jj1 jjT ja0 ja4 jbw jkk a1 jbF jb3 jhR jeF jcI jcU jbM jbF cyB jcq jjQ cyI jlB jjU cyI jlx) s.heap.size = A at hD ⊢
  have hA : ∀ q : Nat, s.heap.size ≤ q → A q := fun q h => by rw [← hAe]; exact Or.inr h
  have hS : va_S A s.heap s.heap [] := va_S.rf
  have hP : va_P (dC, dI) vwCl (qyc a0 jmz jmA jjQ jjU jkJ jiT jj1 jjT ja0 ja4 jbw jkk a1 jbF jb3 jhR jeF jcI jcU jbM jbF cyB jcq jjQ cyI jlB jjU cyI jlx) s.heap := hP
  have hl := lv_entry ([.ref a0, .ref a1, .int p2]) (n := 3) (nbq rfl)
  rw [lg_entry_eq]
  generalize (lg_sl ([.ref a0, .ref a1, .int p2]) ++ List.replicate (3 - (lg_sl ([.ref a0, .ref a1, .int p2])).length) Slot.unset).toArray = ls at hl ⊢
  have hl : lv_has ls 3 [(0, .ref a0), (1, .ref a1), (2, .int p2)] := hl
  have C0 : cfx p s m _ meth c cX2_readFox none wsX2_readFox RX2 3 A (dC, dI) (kT cyB cyI cyJ cyP) := ⟨hx, hb, hr, hts, hown, hlocks, hml, hA, hK, hNw⟩
  clear hAe
  obtain ⟨H, hH⟩ : ∃ H, H = s.heap := ⟨_, rfl⟩
  rw [← hH] at hP ⊢
  have hS : va_S A s.heap H [] := by rw [hH]; exact va_S.rf
  have hS := hS
  refine lv_iload_n hx hb (qaa qhl 0 rfl) rfl (lv_at hl 2 rfl) ?_
  refine lv_if_ne (tgt := 12) hx hb (qaa qhl 1 rfl) (by decide) (fun c1 => ?_) (fun c1 => ?_)
  · have hw := hw.1 c1
    exact qZt dC dI cyB cyI cyJ cyP a0 a1 jjQ jbF jjU jmz jmA jkJ jiT jj1 jjT ja0 ja4 jkk jcI jb3 jcq Q C0 _ _ _ jhR jcU jbM jeF jlB jlx jbw hP hD hS (lv_sub hl [1] rfl) hw
  · have hw := hw.2 c1
    refine lv_aload_n hx hb (qaa qhl 2 rfl) rfl (lv_at hl 0 rfl) ?_
    refine va_get (D := (dC, dI)) (ci := 2) (v := .int jbw) (C := RX2) (T := TX2) (N := 12) hx hb hts quG hown hK hP 0 rfl rfl 10 (by decide) (hts _ qyW) (fun _ h9 => h9) rfl (qaa qhl 3 rfl) ?_
    refine lv_iconst (v := 4) hx hb (qaa qhl 4 rfl) (by decide) ?_
    refine lv_icmp_lt (tgt := 18) hx hb (qaa qhl 5 rfl) (by decide) (fun c2 => ?_) (fun c2 => ?_)
    · have hw := hw.1 c2
      refine lv_aload_n hx hb (qaa qhl 10 rfl) rfl (lv_at hl 0 rfl) ?_
      refine va_get (D := (dC, dI)) (ci := 2) (v := .ref jjQ) (C := RX2) (T := TX2) (N := 12) hx hb hts quG hown hK hP 0 rfl rfl 2 (by decide) (hts _ qamJ) (fun _ h9 => h9) rfl (qaa qhl 11 rfl) ?_
      refine lv_aload_n hx hb (qaa qhl 12 rfl) rfl (lv_at hl 0 rfl) ?_
      refine va_get (D := (dC, dI)) (ci := 2) (v := .int jbw) (C := RX2) (T := TX2) (N := 12) hx hb hts quG hown hK hP 0 rfl rfl 10 (by decide) (hts _ qyW) (fun _ h9 => h9) rfl (qaa qhl 13 rfl) ?_
      refine lv_aload_n hx hb (qaa qhl 14 rfl) rfl (lv_at hl 1 rfl) ?_
      refine lv_iconst (v := 0) hx hb (qaa qhl 15 rfl) (by decide) ?_
      refine lv_bipush (v := 30) hx hb (qaa qfh 0 rfl) (by decide) ?_
      obtain ⟨hCc, hPc, hDc, hFc⟩ := qac (ws' := (quf a1 jbF jb3 jhR jeF jcI jcU jbM jbF cyB jcq)) hP hD hS hA [1, 2] (by decide +kernel) rfl
      refine va_calli (va_runV (As := [.int 0, .int 30]) (rest := [.int jbw, .ref jjQ]) ⟨hx, hb, hml, hown, hts⟩ (qia l dC dI cyB cyI cyJ cyP a1 jbF H.size (jcI) jb3 jcq jhR jcU jbM jeF 0 30 hw) (cwV 2 hts gX2_readFox_X8_number rfl rfl rfl (by decide +kernel) ⟨nbq rfl, nbq rfl⟩) ⟨qab, va_recv (q := (RX8, TX8, 7)) hK hPc (ci := 8) (q0 := 0) rfl rfl, qae hPc hK hDc hNw⟩ rfl rfl hl.1 rfl (lv_room (nbq rfl)) (qaa qfh 1 rfl) ⟨nbq rfl, nbq rfl⟩) hS (fun q _ h => hFc q h) hFc (fun r7 u t H1 locs ht hvm hw hB hz1 hk1 hS => ?_)
      obtain ⟨x3, x4, x5, x6⟩ := u
      obtain ⟨hP1, hK1, hD1⟩ := hB
      rw [ht] at hP1
      obtain ⟨hP, hD⟩ := qad (wr := (qaXt a0 jmz jmA jjQ jjU jkJ jiT jj1 jjT ja0 ja4 jbw jkk jjQ cyI jlB jjU cyI jlx)) (w1 := (quf a1 jbF jb3 x3 x6 jcI x4 x5 jbF cyB jcq)) (wn := (qyc a0 jmz jmA jjQ jjU jkJ jiT jj1 jjT ja0 ja4 jbw jkk a1 jbF jb3 x3 x6 jcI x4 x5 jbF cyB jcq jjQ cyI jlB jjU cyI jlx)) hP hD [1, 2] [0, 3, 4] [0, 3, 4, 1, 2] hCc rfl (by decide +kernel) (by decide +kernel) (by decide +kernel) rfl hk1 hFc hP1 hD1
      generalize H1 = H at hP hS ⊢
      obtain ⟨hi9, hw⟩ := hw
      refine va_iast hx hb hK hP hD hS 3 1 rfl rfl hi9 (qaa qfh 2 rfl) (fun H locs hP hD hS => ?_)
      obtain ⟨f8, ef8⟩ : ∃ y : NI, y = upd jlB jbw.toNatClampNeg r7 := ⟨_, rfl⟩
      have hw := hw f8 ef8
      have hP : va_P (dC, dI) vwCl (qyc a0 jmz jmA jjQ jjU jkJ jiT jj1 jjT ja0 ja4 jbw jkk a1 jbF jb3 x3 x6 jcI x4 x5 jbF cyB jcq jjQ cyI f8 jjU cyI jlx) H := by rw [ef8]; exact hP
      have hD : va_D A (qyc a0 jmz jmA jjQ jjU jkJ jiT jj1 jjT ja0 ja4 jbw jkk a1 jbF jb3 x3 x6 jcI x4 x5 jbF cyB jcq jjQ cyI f8 jjU cyI jlx) := by rw [ef8]; exact hD
      refine lv_aload_n hx hb (qaa qfh 3 rfl) rfl (lv_at hl 0 rfl) ?_
      refine va_get (D := (dC, dI)) (ci := 2) (v := .ref jjU) (C := RX2) (T := TX2) (N := 12) hx hb hts quG hown hK hP 0 rfl rfl 3 (by decide) (hts _ qang) (fun _ h9 => h9) rfl (qaa qfh 4 rfl) ?_
      refine lv_aload_n hx hb (qaa qfh 5 rfl) rfl (lv_at hl 0 rfl) ?_
      refine va_get (D := (dC, dI)) (ci := 2) (v := .int jbw) (C := RX2) (T := TX2) (N := 12) hx hb hts quG hown hK hP 0 rfl rfl 10 (by decide) (hts _ qyW) (fun _ h9 => h9) rfl (qaa qfh 6 rfl) ?_
      refine lv_aload_n hx hb (qaa qfh 7 rfl) rfl (lv_at hl 1 rfl) ?_
      refine lv_iconst (v := 0) hx hb (qaa qfh 8 rfl) (by decide) ?_
      refine lv_bipush (v := 30) hx hb (qaa qfh 9 rfl) (by decide) ?_
      obtain ⟨hCc, hPc, hDc, hFc⟩ := qac (ws' := (quf a1 jbF jb3 x3 x6 jcI x4 x5 jbF cyB jcq)) hP hD hS hA [1, 2] (by decide +kernel) rfl
      refine va_calli (va_runV (As := [.int 0, .int 30]) (rest := [.int jbw, .ref jjU]) ⟨hx, hb, hml, hown, hts⟩ (qia l dC dI cyB cyI cyJ cyP a1 jbF H.size (jcI) jb3 jcq x3 x4 x5 x6 0 30 hw) (cwV 2 hts gX2_readFox_X8_number rfl rfl rfl (by decide +kernel) ⟨nbq rfl, nbq rfl⟩) ⟨qab, va_recv (q := (RX8, TX8, 7)) hK hPc (ci := 8) (q0 := 0) rfl rfl, qae hPc hK hDc hNw⟩ rfl rfl hl.1 rfl (lv_room (nbq rfl)) (qaa qfh 10 rfl) ⟨nbq rfl, nbq rfl⟩) hS (fun q _ h => hFc q h) hFc (fun r13 u t H1 locs ht hvm hw hB hz1 hk1 hS => ?_)
      obtain ⟨x9, x10, x11, x12⟩ := u
      obtain ⟨hP1, hK1, hD1⟩ := hB
      rw [ht] at hP1
      obtain ⟨hP, hD⟩ := qad (wr := (qaXt a0 jmz jmA jjQ jjU jkJ jiT jj1 jjT ja0 ja4 jbw jkk jjQ cyI f8 jjU cyI jlx)) (w1 := (quf a1 jbF jb3 x9 x12 jcI x10 x11 jbF cyB jcq)) (wn := (qyc a0 jmz jmA jjQ jjU jkJ jiT jj1 jjT ja0 ja4 jbw jkk a1 jbF jb3 x9 x12 jcI x10 x11 jbF cyB jcq jjQ cyI f8 jjU cyI jlx)) hP hD [1, 2] [0, 3, 4] [0, 3, 4, 1, 2] hCc rfl (by decide +kernel) (by decide +kernel) (by decide +kernel) rfl hk1 hFc hP1 hD1
      generalize H1 = H at hP hS ⊢
      obtain ⟨hi9, hw⟩ := hw
      refine va_iast hx hb hK hP hD hS 4 1 rfl rfl hi9 (qaa qfh 11 rfl) (fun H locs hP hD hS => ?_)
      obtain ⟨f14, ef14⟩ : ∃ y : NI, y = upd jlx jbw.toNatClampNeg r13 := ⟨_, rfl⟩
      have hw := hw f14 ef14
      have hP : va_P (dC, dI) vwCl (qyc a0 jmz jmA jjQ jjU jkJ jiT jj1 jjT ja0 ja4 jbw jkk a1 jbF jb3 x9 x12 jcI x10 x11 jbF cyB jcq jjQ cyI f8 jjU cyI f14) H := by rw [ef14]; exact hP
      have hD : va_D A (qyc a0 jmz jmA jjQ jjU jkJ jiT jj1 jjT ja0 ja4 jbw jkk a1 jbF jb3 x9 x12 jcI x10 x11 jbF cyB jcq jjQ cyI f8 jjU cyI f14) := by rw [ef14]; exact hD
      refine lv_aload_n hx hb (qaa qfh 12 rfl) rfl (lv_at hl 1 rfl) ?_
      refine lv_bipush (v := 59) hx hb (qaa qfh 13 rfl) (by decide) ?_
      obtain ⟨hCc, hPc, hDc, hFc⟩ := qac (ws' := (quf a1 jbF jb3 x9 x12 jcI x10 x11 jbF cyB jcq)) hP hD hS hA [1, 2] (by decide +kernel) rfl
      refine va_callv (va_runV (As := [.int 59]) (rest := []) ⟨hx, hb, hml, hown, hts⟩ (qsY l dC dI cyB cyI cyJ cyP a1 jbF H.size (jcI) jb3 jcq x9 x12 x10 x11 59 hw) (cwV 1 hts gX2_readFox_X8_needs rfl rfl rfl (by decide +kernel) ⟨nbq rfl, nbq rfl⟩) ⟨qab, va_recv (q := (RX8, TX8, 7)) hK hPc (ci := 8) (q0 := 0) rfl rfl, qae hPc hK hDc hNw⟩ rfl rfl hl.1 rfl (lv_room (nbq rfl)) (qaa qfh 14 rfl) ⟨nbq rfl, nbq rfl⟩) hS (fun q _ h => hFc q h) hFc (fun u t H1 locs ht hvm hw hB hz1 hk1 hS => ?_)
      obtain ⟨x15, x16, x17, x18⟩ := u
      obtain ⟨hP1, hK1, hD1⟩ := hB
      rw [ht] at hP1
      obtain ⟨hP, hD⟩ := qad (wr := (qaXt a0 jmz jmA jjQ jjU jkJ jiT jj1 jjT ja0 ja4 jbw jkk jjQ cyI f8 jjU cyI f14)) (w1 := (quf a1 jbF jb3 x15 x16 jcI x17 x18 jbF cyB jcq)) (wn := (qyc a0 jmz jmA jjQ jjU jkJ jiT jj1 jjT ja0 ja4 jbw jkk a1 jbF jb3 x15 x16 jcI x17 x18 jbF cyB jcq jjQ cyI f8 jjU cyI f14)) hP hD [1, 2] [0, 3, 4] [0, 3, 4, 1, 2] hCc rfl (by decide +kernel) (by decide +kernel) (by decide +kernel) rfl hk1 hFc hP1 hD1
      generalize H1 = H at hP hS ⊢
      refine lv_aload_n hx hb (qaa qfh 15 rfl) rfl (lv_at hl 0 rfl) ?_
      refine lv_dup hx hb (qaa qwC 0 rfl) rfl ?_
      refine va_get (D := (dC, dI)) (ci := 2) (v := .int jbw) (C := RX2) (T := TX2) (N := 12) hx hb hts quG hown hK hP 0 rfl rfl 10 (by decide) (hts _ qyW) (fun _ h9 => h9) rfl (qaa qwC 1 rfl) ?_
      refine lv_iconst (v := 1) hx hb (qaa qwC 2 rfl) (by decide) ?_
      refine lv_iadd hx hb (qaa qwC 3 rfl) ?_
      refine lv_topi (fun x19 ex19 => ?_)
      have hw := hw x19 ex19
      refine va_put (D := (dC, dI)) (ci := 2) (v := .int x19) (ty := .int) (C := RX2) (T := TX2) (N := 12) hx hb hts quG tyX2 tyX2_ok nmX2 hown hK hP hD hS 0 rfl rfl 10 (by decide) (hts _ qyW) (fun _ h9 => h9) rfl (by decide +kernel) rfl rfl (nbq rfl) (qaa qwC 4 rfl) (fun H locs hP hD hS => ?_)
      have hP : va_P (dC, dI) vwCl (qyc a0 jmz jmA jjQ jjU jkJ jiT jj1 jjT ja0 ja4 x19 jkk a1 jbF jb3 x15 x16 jcI x17 x18 jbF cyB jcq jjQ cyI f8 jjU cyI f14) H := hP
      have hD : va_D A (qyc a0 jmz jmA jjQ jjU jkJ jiT jj1 jjT ja0 ja4 x19 jkk a1 jbF jb3 x15 x16 jcI x17 x18 jbF cyB jcq jjQ cyI f8 jjU cyI f14) := hD
      exact ((W.vret hx hb hr (fun t ht hW => ⟨⟨(x15, x17, x18, x16, f8, f14, x19), rfl, hw, by rw [ht]; exact hP, va_K.moved hW.alike hK, hD⟩, hS.F ht⟩) hS.2.2 (qaa qwC 5 rfl)))
    · have hw := hw.2 c2
      exact qZt dC dI cyB cyI cyJ cyP a0 a1 jjQ jbF jjU jmz jmA jkJ jiT jj1 jjT ja0 ja4 jkk jcI jb3 jcq Q C0 _ _ _ jhR jcU jbM jeF jlB jlx jbw hP hD hS (lv_sub hl [1] rfl) hw
theorem qJI : ∀ w ∈ u_ws RX2 TX2 12, w ∈ wsX2_readDebt := uiM qsb qLg (by decide +kernel)
theorem qagK : (.fieldLink RX2 30 "MarchHares$Down" "debts" "[I" : Cond) ∈ wsX2_readDebt := qsb 194 (by decide +kernel)
theorem qSO : (.fieldLink RX2 40 "MarchHares$Down" "hares" "I" : Cond) ∈ wsX2_readDebt := qsb 721 (by decide +kernel)
set_option maxHeartbeats 4000000 in
set_option maxRecDepth 100000 in
theorem qUN {p : Program} {l : Launch} {e : Env} {s : State} {m : MethodId} {args : Array Value} {below : List Frame} {meth : Method} {c : Code} {A : Nat → Prop} (dC : Nat → ClassId) (dI : Nat → Nat → Nat) (cyB cyI cyJ cyP : ClassId) (a0 a1 jbF jkT : Nat) (jmz jmA jlc jld jkJ jiT jjT ja0 jaP jkk jcI : Value) (jaC jb3 : Int32) (jcq : NI) (Q : Int32 → Int32 → Int32 → Int32 → NI → Prop) (C0 : cfx p s m args meth c cX2_readDebt none wsX2_readDebt RX2 6 A (dC, dI) (kT cyB cyI cyJ cyP)) : ∀ (H : Heap) (locs : List Loc) (ls : Array Slot) (jhR jcU jbM jeF : Int32) (jl3 : NI) (l3 l4 : Int32), va_P (dC, dI) vwCl (qzx a0 jmz jmA jlc jld jkJ jiT jkT jjT ja0 jaC jaP jkk a1 jbF jb3 jhR jeF jcI jcU jbM jbF cyB jcq jkT cyI jl3) H → va_D A (qzx a0 jmz jmA jlc jld jkJ jiT jkT jjT ja0 jaC jaP jkk a1 jbF jb3 jhR jeF jcI jcU jbM jbF cyB jcq jkT cyI jl3) → va_S A s.heap H locs → lv_has ls 6 [(0, .ref a0), (1, .ref a1), (3, .int l3), (4, .int l4)] → qCw jaC jb3 jcq Q jhR jcU jbM jeF jl3 l3 l4 → W p l e (headSpec wsX2_readDebt ({ frames := 3, cells := 0, slots := 0, locals := 63 })).room s m args below meth c H locs 0 0 (MQ below (va_Qv (fun (u : Int32 × Int32 × Int32 × Int32 × NI) => Q u.1 u.2.1 u.2.2.1 u.2.2.2.1 u.2.2.2.2) (cB (dC, dI) (kT cyB cyI cyJ cyP) A (fun u : Int32 × Int32 × Int32 × Int32 × NI => ((qzx a0 jmz jmA jlc jld jkJ jiT jkT jjT ja0 jaC jaP jkk a1 jbF jb3 u.1 u.2.2.2.1 jcI u.2.1 u.2.2.1 jbF cyB jcq jkT cyI u.2.2.2.2) : va_W))) A) args s 0 0 A) (F0 m 46 ls []) := by
  obtain ⟨hx, hb, hr, hts, hown, hlocks, hml, hA, hK, hNw⟩ := id C0
  intro H locs ls jhR jcU jbM jeF jl3 l3 l4 hP hD hS hl hw
  refine lv_aload_n hx hb (qaa qdT 12 rfl) rfl (lv_at hl 1 rfl) ?_
  refine lv_iconst (v := 0) hx hb (qaa qdT 13 rfl) (by decide) ?_
  refine lv_bipush (v := 99) hx hb (qaa qdT 14 rfl) (by decide) ?_
  obtain ⟨hCc, hPc, hDc, hFc⟩ := qac (ws' := (quf a1 jbF jb3 jhR jeF jcI jcU jbM jbF cyB jcq)) hP hD hS hA [1, 2] (by decide +kernel) rfl
  refine va_calli (va_runV (As := [.int 0, .int 99]) (rest := []) ⟨hx, hb, hml, hown, hts⟩ (qia l dC dI cyB cyI cyJ cyP a1 jbF H.size (jcI) jb3 jcq jhR jcU jbM jeF 0 99 hw) (cwV 2 hts gX2_readDebt_X8_number rfl rfl rfl (by decide +kernel) ⟨nbq rfl, nbq rfl⟩) ⟨qab, va_recv (q := (RX8, TX8, 7)) hK hPc (ci := 8) (q0 := 0) rfl rfl, qae hPc hK hDc hNw⟩ rfl rfl hl.1 rfl (lv_room (nbq rfl)) (qaa qdT 15 rfl) ⟨nbq rfl, nbq rfl⟩) hS (fun q _ h => hFc q h) hFc (fun r21 u t H1 locs ht hvm hw hB hz1 hk1 hS => ?_)
  obtain ⟨x17, x18, x19, x20⟩ := u
  obtain ⟨hP1, hK1, hD1⟩ := hB
  rw [ht] at hP1
  obtain ⟨hP, hD⟩ := qad (wr := (qaQS a0 jmz jmA jlc jld jkJ jiT jkT jjT ja0 jaC jaP jkk jkT cyI jl3)) (w1 := (quf a1 jbF jb3 x17 x20 jcI x18 x19 jbF cyB jcq)) (wn := (qzx a0 jmz jmA jlc jld jkJ jiT jkT jjT ja0 jaC jaP jkk a1 jbF jb3 x17 x20 jcI x18 x19 jbF cyB jcq jkT cyI jl3)) hP hD [1, 2] [0, 3] [0, 2, 3, 1] hCc rfl (by decide +kernel) (by decide +kernel) (by decide +kernel) rfl hk1 hFc hP1 hD1
  generalize H1 = H at hP hS ⊢
  refine lv_istore (lv' := [(5, .int r21), (0, .ref a0), (1, .ref a1), (3, .int l3), (4, .int l4)]) hx hb (qaa qec 0 rfl) hl (by decide) rfl (fun ls hl => ?_)
  refine lv_aload_n hx hb (qaa qec 1 rfl) rfl (lv_at hl 2 rfl) ?_
  refine lv_bipush (v := 59) hx hb (qaa qec 2 rfl) (by decide) ?_
  obtain ⟨hCc, hPc, hDc, hFc⟩ := qac (ws' := (quf a1 jbF jb3 x17 x20 jcI x18 x19 jbF cyB jcq)) hP hD hS hA [1, 2] (by decide +kernel) rfl
  refine va_callv (va_runV (As := [.int 59]) (rest := []) ⟨hx, hb, hml, hown, hts⟩ (qsY l dC dI cyB cyI cyJ cyP a1 jbF H.size (jcI) jb3 jcq x17 x20 x18 x19 59 hw) (cwV 1 hts gX2_readDebt_X8_needs rfl rfl rfl (by decide +kernel) ⟨nbq rfl, nbq rfl⟩) ⟨qab, va_recv (q := (RX8, TX8, 7)) hK hPc (ci := 8) (q0 := 0) rfl rfl, qae hPc hK hDc hNw⟩ rfl rfl hl.1 rfl (lv_room (nbq rfl)) (qaa qec 3 rfl) ⟨nbq rfl, nbq rfl⟩) hS (fun q _ h => hFc q h) hFc (fun u t H1 locs ht hvm hw hB hz1 hk1 hS => ?_)
  obtain ⟨x22, x23, x24, x25⟩ := u
  obtain ⟨hP1, hK1, hD1⟩ := hB
  rw [ht] at hP1
  obtain ⟨hP, hD⟩ := qad (wr := (qaQS a0 jmz jmA jlc jld jkJ jiT jkT jjT ja0 jaC jaP jkk jkT cyI jl3)) (w1 := (quf a1 jbF jb3 x22 x23 jcI x24 x25 jbF cyB jcq)) (wn := (qzx a0 jmz jmA jlc jld jkJ jiT jkT jjT ja0 jaC jaP jkk a1 jbF jb3 x22 x23 jcI x24 x25 jbF cyB jcq jkT cyI jl3)) hP hD [1, 2] [0, 3] [0, 2, 3, 1] hCc rfl (by decide +kernel) (by decide +kernel) (by decide +kernel) rfl hk1 hFc hP1 hD1
  generalize H1 = H at hP hS ⊢
  refine lv_aload_n hx hb (qaa qec 4 rfl) rfl (lv_at hl 2 rfl) ?_
  obtain ⟨hCc, hPc, hDc, hFc⟩ := qac (ws' := (qMi a1 jbF jb3 x22 x23 jcI x24 x25)) hP hD hS hA [1] (by decide +kernel) rfl
  refine va_calli (va_runV (As := []) (rest := []) ⟨hx, hb, hml, hown, hts⟩ (qjR l dC dI cyB cyI cyJ cyP a1 H.size (.ref jbF) (.int jb3) (.int x22) (.int x23) (jcI) (.int x25) x24 hw) (cwV 0 hts gX2_readDebt_X8_isFaulty rfl rfl rfl (by decide +kernel) ⟨nbq rfl, nbq rfl⟩) ⟨qab, va_recv (q := (RX8, TX8, 7)) hK hPc (ci := 8) (q0 := 0) rfl rfl, qae hPc hK hDc hNw⟩ rfl rfl hl.1 rfl (lv_room (nbq rfl)) (qaa qec 5 rfl) ⟨nbq rfl, nbq rfl⟩) hS (fun q _ h => hFc q h) hFc (fun r26 u t H1 locs ht hvm hw hB hz1 hk1 hS => ?_)
  obtain ⟨hP1, hK1, hD1⟩ := hB
  rw [ht] at hP1
  obtain ⟨hP, hD⟩ := qad (wr := (qaXc a0 jmz jmA jlc jld jkJ jiT jkT jjT ja0 jaC jaP jkk jbF cyB jcq jkT cyI jl3)) (w1 := (qMi a1 jbF jb3 x22 x23 jcI x24 x25)) (wn := (qzx a0 jmz jmA jlc jld jkJ jiT jkT jjT ja0 jaC jaP jkk a1 jbF jb3 x22 x23 jcI x24 x25 jbF cyB jcq jkT cyI jl3)) hP hD [1] [0, 2, 3] [0, 3, 1, 2] hCc rfl (by decide +kernel) (by decide +kernel) (by decide +kernel) rfl hk1 hFc hP1 hD1
  generalize H1 = H at hP hS ⊢
  refine lv_if_ne (tgt := 82) hx hb (qaa qec 6 rfl) (by decide) (fun c27 => ?_) (fun c27 => ?_)
  · have hw := hw.1 c27
    exact ((W.vret hx hb hr (fun t ht hW => ⟨⟨(x22, x24, x25, x23, jl3), rfl, hw, by rw [ht]; exact hP, va_K.moved hW.alike hK, hD⟩, hS.F ht⟩) hS.2.2 (qaa qU7 0 rfl)))
  · have hw := hw.2 c27
    refine lv_aload_n hx hb (qaa qec 7 rfl) rfl (lv_at hl 1 rfl) ?_
    refine va_get (D := (dC, dI)) (ci := 2) (v := .ref jkT) (C := RX2) (T := TX2) (N := 12) hx hb hts qJI hown hK hP 0 rfl rfl 6 (by decide) (hts _ qagK) (fun _ h9 => h9) rfl (qaa qec 8 rfl) ?_
    refine lv_iload_n hx hb (qaa qec 9 rfl) rfl (lv_at hl 3 rfl) ?_
    refine lv_bipush (v := 6) hx hb (qaa qec 10 rfl) (by decide) ?_
    refine lv_imul hx hb (qaa qec 11 rfl) ?_
    refine lv_topi (fun x28 ex28 => ?_)
    have hw := hw x28 ex28
    refine lv_iload hx hb (qaa qec 12 rfl) (lv_at hl 4 rfl) ?_
    refine lv_iadd hx hb (qaa qec 13 rfl) ?_
    refine lv_topi (fun x29 ex29 => ?_)
    have hw := hw x29 ex29
    refine lv_iload hx hb (qaa qec 14 rfl) (lv_at hl 0 rfl) ?_
    obtain ⟨hi9, hw⟩ := hw
    refine va_iast hx hb hK hP hD hS 3 1 rfl rfl hi9 (qaa qec 15 rfl) (fun H locs hP hD hS => ?_)
    obtain ⟨f30, ef30⟩ : ∃ y : NI, y = upd jl3 x29.toNatClampNeg r21 := ⟨_, rfl⟩
    have hw := hw f30 ef30
    have hP : va_P (dC, dI) vwCl (qzx a0 jmz jmA jlc jld jkJ jiT jkT jjT ja0 jaC jaP jkk a1 jbF jb3 x22 x23 jcI x24 x25 jbF cyB jcq jkT cyI f30) H := by rw [ef30]; exact hP
    have hD : va_D A (qzx a0 jmz jmA jlc jld jkJ jiT jkT jjT ja0 jaC jaP jkk a1 jbF jb3 x22 x23 jcI x24 x25 jbF cyB jcq jkT cyI f30) := by rw [ef30]; exact hD
    exact ((W.vret hx hb hr (fun t ht hW => ⟨⟨(x22, x24, x25, x23, f30), rfl, hw, by rw [ht]; exact hP, va_K.moved hW.alike hK, hD⟩, hS.F ht⟩) hS.2.2 (qaa qU7 0 rfl)))
set_option maxHeartbeats 4000000 in
set_option maxRecDepth 100000 in
theorem qaGr (l : Launch) (dC : Nat → ClassId) (dI : Nat → Nat → Nat) (cyB cyI cyJ cyP : ClassId) (a0 a1 jbF jkT sz : Nat) (jmz jmA jlc jld jkJ jiT jjT ja0 jaP jkk jcI : Value) (jaC jb3 : Int32) (jcq : NI) (jhR jcU jbM jeF : Int32) (jl3 : NI) (p2 : Int32) {Q : Int32 → Int32 → Int32 → Int32 → NI → Prop} (hw : qTs jaC jb3 jcq jhR jcU jbM jeF jl3 p2 Q) : Met l yX2_readDebt wsX2_readDebt ({ frames := 3, cells := 0, slots := 0, locals := 63 }) (va_Pc [.ref a0, .ref a1, .int p2] (cPc (dC, dI) (kT cyB cyI cyJ cyP) (qzx a0 jmz jmA jlc jld jkJ jiT jkT jjT ja0 jaC jaP jkk a1 jbF jb3 jhR jeF jcI jcU jbM jbF cyB jcq jkT cyI jl3) sz)) (va_Qv (fun (u : Int32 × Int32 × Int32 × Int32 × NI) => Q u.1 u.2.1 u.2.2.1 u.2.2.2.1 u.2.2.2.2) (cB (dC, dI) (kT cyB cyI cyJ cyP) (va_A (qzx a0 jmz jmA jlc jld jkJ jiT jkT jjT ja0 jaC jaP jkk a1 jbF jb3 jhR jeF jcI jcU jbM jbF cyB jcq jkT cyI jl3) sz) (fun u : Int32 × Int32 × Int32 × Int32 × NI => ((qzx a0 jmz jmA jlc jld jkJ jiT jkT jjT ja0 jaC jaP jkk a1 jbF jb3 u.1 u.2.2.2.1 jcI u.2.1 u.2.2.1 jbF cyB jcq jkT cyI u.2.2.2.2) : va_W))) (va_A (qzx a0 jmz jmA jlc jld jkJ jiT jkT jjT ja0 jaC jaP jkk a1 jbF jb3 jhR jeF jcI jcU jbM jbF cyB jcq jkT cyI jl3) sz)) 0 0 (va_A (qzx a0 jmz jmA jlc jld jkJ jiT jkT jjT ja0 jaC jaP jkk a1 jbF jb3 jhR jeF jcI jcU jbM jbF cyB jcq jkT cyI jl3) sz) := by
  refine Met.ofW (cc := cX2_readDebt) (maxL := 6) (ret := none) (by decide) rfl ?_
  intro p e s m args below meth c s₁ B hml hv
  obtain ⟨rfl, hsz, hP, hK, hD0, hNw⟩ := hv
  have hx := B.exec
  have hb := B.bytes
  have hr := B.returns
  have hts := atoms_spec (ws := wsX2_readDebt) B.pre
  have hown : s.vm.findClass RX2 = some m.cls := findClass_of_methodNamed B.named
  have hlocks := B.notSynchronized
  subst hsz
  have hD := hD0.self (sz := s.heap.size)
  generalize hAe : va_A (qzx a0 jmz jmA jlc jld jkJ jiT jkT jjT ja0 jaC jaP jkk a1 jbF jb3 jhR jeF jcI jcU jbM jbF cyB jcq jkT cyI jl3) s.heap.size = A at hD ⊢
  have hA : ∀ q : Nat, s.heap.size ≤ q → A q := fun q h => by rw [← hAe]; exact Or.inr h
  have hS : va_S A s.heap s.heap [] := va_S.rf
  have hP : va_P (dC, dI) vwCl (qzx a0 jmz jmA jlc jld jkJ jiT jkT jjT ja0 jaC jaP jkk a1 jbF jb3 jhR jeF jcI jcU jbM jbF cyB jcq jkT cyI jl3) s.heap := hP
  have hl := lv_entry ([.ref a0, .ref a1, .int p2]) (n := 6) (nbq rfl)
  rw [lg_entry_eq]
  generalize (lg_sl ([.ref a0, .ref a1, .int p2]) ++ List.replicate (6 - (lg_sl ([.ref a0, .ref a1, .int p2])).length) Slot.unset).toArray = ls at hl ⊢
  have hl : lv_has ls 6 [(0, .ref a0), (1, .ref a1), (2, .int p2)] := hl
  have C0 : cfx p s m _ meth c cX2_readDebt none wsX2_readDebt RX2 6 A (dC, dI) (kT cyB cyI cyJ cyP) := ⟨hx, hb, hr, hts, hown, hlocks, hml, hA, hK, hNw⟩
  clear hAe
  obtain ⟨H, hH⟩ : ∃ H, H = s.heap := ⟨_, rfl⟩
  rw [← hH] at hP ⊢
  have hS : va_S A s.heap H [] := by rw [hH]; exact va_S.rf
  have hS := hS
  refine lv_iload_n hx hb (qaa qfj 0 rfl) rfl (lv_at hl 2 rfl) ?_
  refine lv_if_eq (tgt := 10) hx hb (qaa qfj 1 rfl) (by decide) (fun c1 => ?_) (fun c1 => ?_)
  · have hw := hw.1 c1
    refine lv_aload_n hx hb (qaa qfj 6 rfl) rfl (lv_at hl 1 rfl) ?_
    refine lv_iconst (v := 0) hx hb (qaa qfj 7 rfl) (by decide) ?_
    refine lv_aload_n hx hb (qaa qfj 8 rfl) rfl (lv_at hl 0 rfl) ?_
    refine va_get (D := (dC, dI)) (ci := 2) (v := .int jaC) (C := RX2) (T := TX2) (N := 12) hx hb hts qJI hown hK hP 0 rfl rfl 9 (by decide) (hts _ qSO) (fun _ h9 => h9) rfl (qaa qfj 9 rfl) ?_
    refine lv_iconst (v := 1) hx hb (qaa qfj 10 rfl) (by decide) ?_
    refine lv_isub hx hb (qaa qfj 11 rfl) ?_
    obtain ⟨hCc, hPc, hDc, hFc⟩ := qac (ws' := (quf a1 jbF jb3 jhR jeF jcI jcU jbM jbF cyB jcq)) hP hD hS hA [1, 2] (by decide +kernel) rfl
    refine va_calli (va_runV (As := [.int 0, .int (jaC - 1)]) (rest := []) ⟨hx, hb, hml, hown, hts⟩ (qia l dC dI cyB cyI cyJ cyP a1 jbF H.size (jcI) jb3 jcq jhR jcU jbM jeF 0 (jaC - 1) hw) (cwV 2 hts gX2_readDebt_X8_number rfl rfl rfl (by decide +kernel) ⟨nbq rfl, nbq rfl⟩) ⟨qab, va_recv (q := (RX8, TX8, 7)) hK hPc (ci := 8) (q0 := 0) rfl rfl, qae hPc hK hDc hNw⟩ rfl rfl hl.1 rfl (lv_room (nbq rfl)) (qaa qfj 12 rfl) ⟨nbq rfl, nbq rfl⟩) hS (fun q _ h => hFc q h) hFc (fun r6 u t H1 locs ht hvm hw hB hz1 hk1 hS => ?_)
    obtain ⟨x2, x3, x4, x5⟩ := u
    obtain ⟨hP1, hK1, hD1⟩ := hB
    rw [ht] at hP1
    obtain ⟨hP, hD⟩ := qad (wr := (qaQS a0 jmz jmA jlc jld jkJ jiT jkT jjT ja0 jaC jaP jkk jkT cyI jl3)) (w1 := (quf a1 jbF jb3 x2 x5 jcI x3 x4 jbF cyB jcq)) (wn := (qzx a0 jmz jmA jlc jld jkJ jiT jkT jjT ja0 jaC jaP jkk a1 jbF jb3 x2 x5 jcI x3 x4 jbF cyB jcq jkT cyI jl3)) hP hD [1, 2] [0, 3] [0, 2, 3, 1] hCc rfl (by decide +kernel) (by decide +kernel) (by decide +kernel) rfl hk1 hFc hP1 hD1
    generalize H1 = H at hP hS ⊢
    refine lv_istore_n (lv' := [(3, .int r6), (0, .ref a0), (1, .ref a1), (2, .int p2)]) hx hb (qaa qfj 13 rfl) rfl hl (by decide) rfl (fun ls hl => ?_)
    refine lv_aload_n hx hb (qaa qfj 14 rfl) rfl (lv_at hl 2 rfl) ?_
    refine lv_iconst (v := 0) hx hb (qaa qfj 15 rfl) (by decide) ?_
    refine lv_aload_n hx hb (qaa qdT 0 rfl) rfl (lv_at hl 1 rfl) ?_
    refine va_get (D := (dC, dI)) (ci := 2) (v := .int jaC) (C := RX2) (T := TX2) (N := 12) hx hb hts qJI hown hK hP 0 rfl rfl 9 (by decide) (hts _ qSO) (fun _ h9 => h9) rfl (qaa qdT 1 rfl) ?_
    refine lv_iconst (v := 1) hx hb (qaa qdT 2 rfl) (by decide) ?_
    refine lv_isub hx hb (qaa qdT 3 rfl) ?_
    obtain ⟨hCc, hPc, hDc, hFc⟩ := qac (ws' := (quf a1 jbF jb3 x2 x5 jcI x3 x4 jbF cyB jcq)) hP hD hS hA [1, 2] (by decide +kernel) rfl
    refine va_calli (va_runV (As := [.int 0, .int (jaC - 1)]) (rest := []) ⟨hx, hb, hml, hown, hts⟩ (qia l dC dI cyB cyI cyJ cyP a1 jbF H.size (jcI) jb3 jcq x2 x3 x4 x5 0 (jaC - 1) hw) (cwV 2 hts gX2_readDebt_X8_number rfl rfl rfl (by decide +kernel) ⟨nbq rfl, nbq rfl⟩) ⟨qab, va_recv (q := (RX8, TX8, 7)) hK hPc (ci := 8) (q0 := 0) rfl rfl, qae hPc hK hDc hNw⟩ rfl rfl hl.1 rfl (lv_room (nbq rfl)) (qaa qdT 4 rfl) ⟨nbq rfl, nbq rfl⟩) hS (fun q _ h => hFc q h) hFc (fun r11 u t H1 locs ht hvm hw hB hz1 hk1 hS => ?_)
    obtain ⟨x7, x8, x9, x10⟩ := u
    obtain ⟨hP1, hK1, hD1⟩ := hB
    rw [ht] at hP1
    obtain ⟨hP, hD⟩ := qad (wr := (qaQS a0 jmz jmA jlc jld jkJ jiT jkT jjT ja0 jaC jaP jkk jkT cyI jl3)) (w1 := (quf a1 jbF jb3 x7 x10 jcI x8 x9 jbF cyB jcq)) (wn := (qzx a0 jmz jmA jlc jld jkJ jiT jkT jjT ja0 jaC jaP jkk a1 jbF jb3 x7 x10 jcI x8 x9 jbF cyB jcq jkT cyI jl3)) hP hD [1, 2] [0, 3] [0, 2, 3, 1] hCc rfl (by decide +kernel) (by decide +kernel) (by decide +kernel) rfl hk1 hFc hP1 hD1
    generalize H1 = H at hP hS ⊢
    refine lv_istore (lv' := [(4, .int r11), (3, .int r6), (0, .ref a0), (1, .ref a1), (2, .int p2)]) hx hb (qaa qdT 5 rfl) hl (by decide) rfl (fun ls hl => ?_)
    refine lv_iload_n hx hb (qaa qdT 6 rfl) rfl (lv_at hl 1 rfl) ?_
    refine lv_iload hx hb (qaa qdT 7 rfl) (lv_at hl 0 rfl) ?_
    refine lv_icmp_ne (tgt := 46) hx hb (qaa qdT 8 rfl) (by decide) (fun c12 => ?_) (fun c12 => ?_)
    · have hw := hw.1 c12
      exact qUN dC dI cyB cyI cyJ cyP a0 a1 jbF jkT jmz jmA jlc jld jkJ jiT jjT ja0 jaP jkk jcI jaC jb3 jcq Q C0 _ _ _ x7 x8 x9 x10 jl3 r6 r11 hP hD hS (lv_sub hl [2, 3, 1, 0] rfl) hw
    · have hw := hw.2 c12
      refine lv_aload_n hx hb (qaa qdT 9 rfl) rfl (lv_at hl 3 rfl) ?_
      refine lv_iconst (v := 2) hx hb (qaa qdT 10 rfl) (by decide) ?_
      obtain ⟨hCc, hPc, hDc, hFc⟩ := qac (ws' := (qMi a1 jbF jb3 x7 x10 jcI x8 x9)) hP hD hS hA [1] (by decide +kernel) rfl
      refine va_callv (va_runV (As := [.int 2]) (rest := []) ⟨hx, hb, hml, hown, hts⟩ (qn6 l dC dI cyB cyI cyJ cyP a1 H.size (.ref jbF) (.int jb3) (.int x7) (jcI) x10 x8 x9 2 hw) (cwV 1 hts gX2_readDebt_X8_blameToken rfl rfl rfl (by decide +kernel) ⟨nbq rfl, nbq rfl⟩) ⟨qab, va_recv (q := (RX8, TX8, 7)) hK hPc (ci := 8) (q0 := 0) rfl rfl, qae hPc hK hDc hNw⟩ rfl rfl hl.1 rfl (lv_room (nbq rfl)) (qaa qdT 11 rfl) ⟨nbq rfl, nbq rfl⟩) hS (fun q _ h => hFc q h) hFc (fun u t H1 locs ht hvm hw hB hz1 hk1 hS => ?_)
      obtain ⟨x13, x14⟩ := u
      obtain ⟨hP1, hK1, hD1⟩ := hB
      rw [ht] at hP1
      obtain ⟨hP, hD⟩ := qad (wr := (qaXc a0 jmz jmA jlc jld jkJ jiT jkT jjT ja0 jaC jaP jkk jbF cyB jcq jkT cyI jl3)) (w1 := (qMi a1 jbF jb3 x7 x10 jcI x13 x14)) (wn := (qzx a0 jmz jmA jlc jld jkJ jiT jkT jjT ja0 jaC jaP jkk a1 jbF jb3 x7 x10 jcI x13 x14 jbF cyB jcq jkT cyI jl3)) hP hD [1] [0, 2, 3] [0, 3, 1, 2] hCc rfl (by decide +kernel) (by decide +kernel) (by decide +kernel) rfl hk1 hFc hP1 hD1
      generalize H1 = H at hP hS ⊢
      exact qUN dC dI cyB cyI cyJ cyP a0 a1 jbF jkT jmz jmA jlc jld jkJ jiT jjT ja0 jaP jkk jcI jaC jb3 jcq Q C0 _ _ _ x7 x13 x14 x10 jl3 r6 r11 hP hD hS (lv_sub hl [2, 3, 1, 0] rfl) hw
  · have hw := hw.2 c1
    refine lv_aload_n hx hb (qaa qfj 2 rfl) rfl (lv_at hl 1 rfl) ?_
    refine lv_iconst (v := 3) hx hb (qaa qfj 3 rfl) (by decide) ?_
    obtain ⟨hCc, hPc, hDc, hFc⟩ := qac (ws' := (qMi a1 jbF jb3 jhR jeF jcI jcU jbM)) hP hD hS hA [1] (by decide +kernel) rfl
    refine va_callv (va_runV (As := [.int 3]) (rest := []) ⟨hx, hb, hml, hown, hts⟩ (qn6 l dC dI cyB cyI cyJ cyP a1 H.size (.ref jbF) (.int jb3) (.int jhR) (jcI) jeF jcU jbM 3 hw) (cwV 1 hts gX2_readDebt_X8_blameToken rfl rfl rfl (by decide +kernel) ⟨nbq rfl, nbq rfl⟩) ⟨qab, va_recv (q := (RX8, TX8, 7)) hK hPc (ci := 8) (q0 := 0) rfl rfl, qae hPc hK hDc hNw⟩ rfl rfl hl.1 rfl (lv_room (nbq rfl)) (qaa qfj 4 rfl) ⟨nbq rfl, nbq rfl⟩) hS (fun q _ h => hFc q h) hFc (fun u t H1 locs ht hvm hw hB hz1 hk1 hS => ?_)
    obtain ⟨x15, x16⟩ := u
    obtain ⟨hP1, hK1, hD1⟩ := hB
    rw [ht] at hP1
    obtain ⟨hP, hD⟩ := qad (wr := (qaXc a0 jmz jmA jlc jld jkJ jiT jkT jjT ja0 jaC jaP jkk jbF cyB jcq jkT cyI jl3)) (w1 := (qMi a1 jbF jb3 jhR jeF jcI x15 x16)) (wn := (qzx a0 jmz jmA jlc jld jkJ jiT jkT jjT ja0 jaC jaP jkk a1 jbF jb3 jhR jeF jcI x15 x16 jbF cyB jcq jkT cyI jl3)) hP hD [1] [0, 2, 3] [0, 3, 1, 2] hCc rfl (by decide +kernel) (by decide +kernel) (by decide +kernel) rfl hk1 hFc hP1 hD1
    generalize H1 = H at hP hS ⊢
    exact ((W.vret hx hb hr (fun t ht hW => ⟨⟨(jhR, x15, x16, jeF, jl3), rfl, hw, by rw [ht]; exact hP, va_K.moved hW.alike hK, hD⟩, hS.F ht⟩) hS.2.2 (qaa qfj 5 rfl)))
theorem qwI : ∀ w ∈ u_ws RX2 TX2 12, w ∈ wsX2_foxIsNear := uiM qrK qLg (by decide +kernel)
theorem q9k : (.fieldLink RX2 15 "MarchHares$Down" "formY" "[I" : Cond) ∈ wsX2_foxIsNear := qrK 149 (by decide +kernel)
theorem q99 : (.fieldLink RX2 18 "MarchHares$Down" "foxX" "[I" : Cond) ∈ wsX2_foxIsNear := qrK 150 (by decide +kernel)
theorem qabn : (.fieldLink RX2 21 "MarchHares$Down" "foxY" "[I" : Cond) ∈ wsX2_foxIsNear := qrK 151 (by decide +kernel)
theorem q8u : (.fieldLink RX2 43 "MarchHares$Down" "foxes" "I" : Cond) ∈ wsX2_foxIsNear := qrK 722 (by decide +kernel)
theorem qagE : (.fieldLink RX2 9 "MarchHares$Down" "formX" "[I" : Cond) ∈ wsX2_foxIsNear := qrK 148 (by decide +kernel)
theorem qNJ : (.initialized "java/lang/Math" : Cond) ∈ wsX2_foxIsNear := qrK 651 (by decide +kernel)
theorem qND : (.methodLink RX2 108 Lib.Math.abs.name : Cond) ∈ wsX2_foxIsNear := qrK 1092 (by decide +kernel)
theorem qLI : (.code Lib.Math.abs.name Lib.Math.abs.code 1 (some .int) : Cond) ∈ wsX2_foxIsNear := qrK 1094 (by decide +kernel)
theorem qLe : (.static Lib.Math.abs.name : Cond) ∈ wsX2_foxIsNear := qrK 1093 (by decide +kernel)
set_option maxHeartbeats 4000000 in
set_option maxRecDepth 100000 in
theorem qamE {p : Program} {l : Launch} {e : Env} {s : State} {m : MethodId} {args : Array Value} {below : List Frame} {meth : Method} {c : Code} {A : Nat → Prop} (dC : Nat → ClassId) (dI : Nat → Nat → Nat) (cyB cyI cyJ cyP : ClassId) (a0 jha jjQ jhi jjU : Nat) (jkJ jiT jj1 jjT ja0 ja4 jkk : Value) (jbw : Int32) (jiR jlB jiP jlx : NI) (Q : Int32 → Prop) (C0 : cfx p s m args meth c cX2_foxIsNear (some .boolean) wsX2_foxIsNear RX2 3 A (dC, dI) (kT cyB cyI cyJ cyP)) : ∀ (n : Nat) (H : Heap) (locs : List Loc) (ls : Array Slot) (l1 l2 : Int32), va_P (dC, dI) vwCl (qUa a0 jha jhi jjQ jjU jkJ jiT jj1 jjT ja0 ja4 jbw jkk jha cyI jiR jjQ cyI jlB jhi cyI jiP jjU cyI jlx) H → va_D A (qUa a0 jha jhi jjQ jjU jkJ jiT jj1 jjT ja0 ja4 jbw jkk jha cyI jiR jjQ cyI jlB jhi cyI jiP jjU cyI jlx) → va_S A s.heap H locs → lv_has ls 3 [(0, .ref a0), (1, .int l1), (2, .int l2)] → qyY jbw jiR jlB jiP jlx Q n l1 l2 → W p l e (headSpec wsX2_foxIsNear ({ frames := 1, cells := 0, slots := 0, locals := 32 })).room s m args below meth c H locs 0 0 (MQ below (va_Qi (fun (r : Int32) (_ : Unit) => Q r ) (cB (dC, dI) (kT cyB cyI cyJ cyP) A (fun u : Unit => ((qUa a0 jha jhi jjQ jjU jkJ jiT jj1 jjT ja0 ja4 jbw jkk jha cyI jiR jjQ cyI jlB jhi cyI jiP jjU cyI jlx) : va_W))) A) args s 0 0 A) (F0 m 2 ls []) := by
  obtain ⟨hx, hb, hr, hts, hown, hlocks, hml, hA, hK, hNw⟩ := id C0
  intro n
  induction n with
  | zero => intro H locs ls l1 l2 hP hD hS hl hw; exact False.elim hw
  | succ n ih =>
    intro H locs ls l1 l2 hP hD hS hl hw
    refine lv_iload_n hx hb (qaa qeK 2 rfl) rfl (lv_at hl 2 rfl) ?_
    refine lv_aload_n hx hb (qaa qeK 3 rfl) rfl (lv_at hl 0 rfl) ?_
    refine va_get (D := (dC, dI)) (ci := 2) (v := .int jbw) (C := RX2) (T := TX2) (N := 12) hx hb hts qwI hown hK hP 0 rfl rfl 10 (by decide) (hts _ q8u) (fun _ h9 => h9) rfl (qaa qeK 4 rfl) ?_
    refine lv_icmp_ge (tgt := 55) hx hb (qaa qeK 5 rfl) (by decide) (fun c1 => ?_) (fun c1 => ?_)
    · have hw := hw.1 c1
      refine lv_iconst (v := 0) hx hb (qaa qIG 1 rfl) (by decide) ?_
      exact ((W.zret (v := 0) hx hb hr rfl (fun t ht hW => ⟨⟨0, (), rfl, hw, by rw [ht]; exact hP, va_K.moved hW.alike hK, hD⟩, hS.F ht⟩) hS.2.2 (qaa qIG 2 rfl)))
    · have hw := hw.2 c1
      refine lv_aload_n hx hb (qaa qeK 6 rfl) rfl (lv_at hl 0 rfl) ?_
      refine va_get (D := (dC, dI)) (ci := 2) (v := .ref jha) (C := RX2) (T := TX2) (N := 12) hx hb hts qwI hown hK hP 0 rfl rfl 0 (by decide) (hts _ qagE) (fun _ h9 => h9) rfl (qaa qeK 7 rfl) ?_
      refine lv_iload_n hx hb (qaa qeK 8 rfl) rfl (lv_at hl 1 rfl) ?_
      obtain ⟨hi9, hw⟩ := hw
      refine va_iald hx hb hK hP 1 1 rfl rfl hi9 (qaa qeK 9 rfl) ?_
      refine lv_topi (fun x2 ex2 => ?_)
      have hw := hw x2 ex2
      refine lv_aload_n hx hb (qaa qeK 10 rfl) rfl (lv_at hl 0 rfl) ?_
      refine va_get (D := (dC, dI)) (ci := 2) (v := .ref jjQ) (C := RX2) (T := TX2) (N := 12) hx hb hts qwI hown hK hP 0 rfl rfl 2 (by decide) (hts _ q99) (fun _ h9 => h9) rfl (qaa qeK 11 rfl) ?_
      refine lv_iload_n hx hb (qaa qeK 12 rfl) rfl (lv_at hl 2 rfl) ?_
      obtain ⟨hi9, hw⟩ := hw
      refine va_iald hx hb hK hP 2 1 rfl rfl hi9 (qaa qeK 13 rfl) ?_
      refine lv_topi (fun x3 ex3 => ?_)
      have hw := hw x3 ex3
      refine lv_isub hx hb (qaa qeK 14 rfl) ?_
      refine va_mabs hx hb (by rw [hml]; exact hl.1.symm) hown (hts _ qND) (hts _ qLe) (hts _ qNJ) (hts _ qLI) (nbq rfl) (nbq rfl) (nbq rfl) (nbq rfl) (qaa qeK 15 rfl) ?_
      refine lv_topi (fun x4 ex4 => ?_)
      have hw := hw x4 ex4
      refine lv_aload_n hx hb (qaa qdh 0 rfl) rfl (lv_at hl 0 rfl) ?_
      refine va_get (D := (dC, dI)) (ci := 2) (v := .ref jhi) (C := RX2) (T := TX2) (N := 12) hx hb hts qwI hown hK hP 0 rfl rfl 1 (by decide) (hts _ q9k) (fun _ h9 => h9) rfl (qaa qdh 1 rfl) ?_
      refine lv_iload_n hx hb (qaa qdh 2 rfl) rfl (lv_at hl 1 rfl) ?_
      obtain ⟨hi9, hw⟩ := hw
      refine va_iald hx hb hK hP 3 1 rfl rfl hi9 (qaa qdh 3 rfl) ?_
      refine lv_topi (fun x5 ex5 => ?_)
      have hw := hw x5 ex5
      refine lv_aload_n hx hb (qaa qdh 4 rfl) rfl (lv_at hl 0 rfl) ?_
      refine va_get (D := (dC, dI)) (ci := 2) (v := .ref jjU) (C := RX2) (T := TX2) (N := 12) hx hb hts qwI hown hK hP 0 rfl rfl 3 (by decide) (hts _ qabn) (fun _ h9 => h9) rfl (qaa qdh 5 rfl) ?_
      refine lv_iload_n hx hb (qaa qdh 6 rfl) rfl (lv_at hl 2 rfl) ?_
      obtain ⟨hi9, hw⟩ := hw
      refine va_iald hx hb hK hP 4 1 rfl rfl hi9 (qaa qdh 7 rfl) ?_
      refine lv_topi (fun x6 ex6 => ?_)
      have hw := hw x6 ex6
      refine lv_isub hx hb (qaa qdh 8 rfl) ?_
      refine va_mabs hx hb (by rw [hml]; exact hl.1.symm) hown (hts _ qND) (hts _ qLe) (hts _ qNJ) (hts _ qLI) (nbq rfl) (nbq rfl) (nbq rfl) (nbq rfl) (qaa qdh 9 rfl) ?_
      refine lv_topi (fun x7 ex7 => ?_)
      have hw := hw x7 ex7
      refine lv_iadd hx hb (qaa qdh 10 rfl) ?_
      refine lv_iconst (v := 3) hx hb (qaa qdh 11 rfl) (by decide) ?_
      refine lv_icmp_gt (tgt := 49) hx hb (qaa qdh 12 rfl) (by decide) (fun c8 => ?_) (fun c8 => ?_)
      · have hw := hw.1 c8
        obtain ⟨x9, ex9⟩ : ∃ y : Int32, y = l2 + 1 := ⟨_, rfl⟩
        have hw := hw x9 ex9
        refine lv_iinc (v := x9) (lv' := [(2, .int x9), (0, .ref a0), (1, .int l1)]) hx hb (qaa qdh 15 rfl) hl (k := 2) rfl (by rw [ex9]; rfl) (by decide) rfl (fun ls hl => ?_)
        refine lv_goto (tgt := 2) hx hb (qaa qIG 0 rfl) (by decide) ?_
        exact ih _ _ _ l1 x9 hP hD hS (lv_sub hl [1, 2, 0] rfl) hw
      · have hw := hw.2 c8
        refine lv_iconst (v := 1) hx hb (qaa qdh 13 rfl) (by decide) ?_
        exact ((W.zret (v := 1) hx hb hr rfl (fun t ht hW => ⟨⟨1, (), rfl, hw, by rw [ht]; exact hP, va_K.moved hW.alike hK, hD⟩, hS.F ht⟩) hS.2.2 (qaa qdh 14 rfl)))
set_option maxHeartbeats 4000000 in
set_option maxRecDepth 100000 in
theorem qawV (l : Launch) (dC : Nat → ClassId) (dI : Nat → Nat → Nat) (cyB cyI cyJ cyP : ClassId) (a0 jha jjQ jhi jjU sz : Nat) (jkJ jiT jj1 jjT ja0 ja4 jkk : Value) (jbw : Int32) (jiR jlB jiP jlx : NI) (p1 : Int32) {Q : Int32 → Prop} (hw : qOF jbw jiR jlB jiP jlx p1 Q) : Met l yX2_foxIsNear wsX2_foxIsNear ({ frames := 1, cells := 0, slots := 0, locals := 32 }) (va_Pc [.ref a0, .int p1] (cPc (dC, dI) (kT cyB cyI cyJ cyP) (qUa a0 jha jhi jjQ jjU jkJ jiT jj1 jjT ja0 ja4 jbw jkk jha cyI jiR jjQ cyI jlB jhi cyI jiP jjU cyI jlx) sz)) (va_Qi (fun (r : Int32) (_ : Unit) => Q r ) (cB (dC, dI) (kT cyB cyI cyJ cyP) (va_A (qUa a0 jha jhi jjQ jjU jkJ jiT jj1 jjT ja0 ja4 jbw jkk jha cyI jiR jjQ cyI jlB jhi cyI jiP jjU cyI jlx) sz) (fun u : Unit => ((qUa a0 jha jhi jjQ jjU jkJ jiT jj1 jjT ja0 ja4 jbw jkk jha cyI jiR jjQ cyI jlB jhi cyI jiP jjU cyI jlx) : va_W))) (va_A (qUa a0 jha jhi jjQ jjU jkJ jiT jj1 jjT ja0 ja4 jbw jkk jha cyI jiR jjQ cyI jlB jhi cyI jiP jjU cyI jlx) sz)) 0 0 (va_A (qUa a0 jha jhi jjQ jjU jkJ jiT jj1 jjT ja0 ja4 jbw jkk jha cyI jiR jjQ cyI jlB jhi cyI jiP jjU cyI jlx) sz) := by
  refine Met.ofW (cc := cX2_foxIsNear) (maxL := 3) (ret := (some .boolean)) (by decide) rfl ?_
  intro p e s m args below meth c s₁ B hml hv
  obtain ⟨rfl, hsz, hP, hK, hD0, hNw⟩ := hv
  have hx := B.exec
  have hb := B.bytes
  have hr := B.returns
  have hts := atoms_spec (ws := wsX2_foxIsNear) B.pre
  have hown : s.vm.findClass RX2 = some m.cls := findClass_of_methodNamed B.named
  have hlocks := B.notSynchronized
  subst hsz
  have hD := hD0.self (sz := s.heap.size)
  generalize hAe : va_A (qUa a0 jha jhi jjQ jjU jkJ jiT jj1 jjT ja0 ja4 jbw jkk jha cyI jiR jjQ cyI jlB jhi cyI jiP jjU cyI jlx) s.heap.size = A at hD ⊢
  have hA : ∀ q : Nat, s.heap.size ≤ q → A q := fun q h => by rw [← hAe]; exact Or.inr h
  have hS : va_S A s.heap s.heap [] := va_S.rf
  have hP : va_P (dC, dI) vwCl (qUa a0 jha jhi jjQ jjU jkJ jiT jj1 jjT ja0 ja4 jbw jkk jha cyI jiR jjQ cyI jlB jhi cyI jiP jjU cyI jlx) s.heap := hP
  have hl := lv_entry ([.ref a0, .int p1]) (n := 3) (nbq rfl)
  rw [lg_entry_eq]
  generalize (lg_sl ([.ref a0, .int p1]) ++ List.replicate (3 - (lg_sl ([.ref a0, .int p1])).length) Slot.unset).toArray = ls at hl ⊢
  have hl : lv_has ls 3 [(0, .ref a0), (1, .int p1)] := hl
  have C0 : cfx p s m _ meth c cX2_foxIsNear (some .boolean) wsX2_foxIsNear RX2 3 A (dC, dI) (kT cyB cyI cyJ cyP) := ⟨hx, hb, hr, hts, hown, hlocks, hml, hA, hK, hNw⟩
  clear hAe
  obtain ⟨H, hH⟩ : ∃ H, H = s.heap := ⟨_, rfl⟩
  rw [← hH] at hP ⊢
  have hS : va_S A s.heap H [] := by rw [hH]; exact va_S.rf
  have hS := hS
  refine lv_iconst (v := 0) hx hb (qaa qeK 0 rfl) (by decide) ?_
  refine lv_istore_n (lv' := [(2, .int 0), (0, .ref a0), (1, .int p1)]) hx hb (qaa qeK 1 rfl) rfl hl (by decide) rfl (fun ls hl => ?_)
  obtain ⟨n9, hw⟩ := hw
  exact qamE dC dI cyB cyI cyJ cyP a0 jha jjQ jhi jjU jkJ jiT jj1 jjT ja0 ja4 jkk jbw jiR jlB jiP jlx Q C0 n9 _ _ _ p1 0 hP hD hS (lv_sub hl [1, 2, 0] rfl) hw
theorem qCJ : ∀ w ∈ u_ws RX2 TX2 12, w ∈ wsX2_findSafe := uiM qGJ qLg (by decide +kernel)
theorem qFF : (.fieldLink RX2 101 "MarchHares$Down" "safe" "I" : Cond) ∈ wsX2_findSafe := qGJ 1047 (by decide +kernel)
theorem qafv : (.fieldLink RX2 36 "MarchHares$Down" "forms" "I" : Cond) ∈ wsX2_findSafe := qGJ 720 (by decide +kernel)
set_option maxHeartbeats 4000000 in
set_option maxRecDepth 100000 in
theorem qVk {p : Program} {l : Launch} {e : Env} {s : State} {m : MethodId} {args : Array Value} {below : List Frame} {meth : Method} {c : Code} {A : Nat → Prop} (dC : Nat → ClassId) (dI : Nat → Nat → Nat) (cyB cyI cyJ cyP : ClassId) (a0 jha jjQ jhi jjU : Nat) (jkJ jiT jj1 jjT ja4 : Value) (jaN jbw : Int32) (jiR jlB jiP jlx : NI) (Q : Int32 → Prop) (K7 : Int32 → Int32 → Prop) (hK7 : ∀ (H : Heap) (locs : List Loc) (ls : Array Slot) (jmw l1 : Int32), va_P (dC, dI) vwCl (qvM a0 jha jhi jjQ jjU jkJ jiT jj1 jjT jaN ja4 jbw jmw jha cyI jiR jjQ cyI jlB jhi cyI jiP jjU cyI jlx) H → va_D A (qvM a0 jha jhi jjQ jjU jkJ jiT jj1 jjT jaN ja4 jbw jmw jha cyI jiR jjQ cyI jlB jhi cyI jiP jjU cyI jlx) → va_S A s.heap H locs → lv_has ls 2 [(0, .ref a0), (1, .int l1)] → K7 jmw l1 → W p l e (headSpec wsX2_findSafe ({ frames := 2, cells := 0, slots := 0, locals := 54 })).room s m args below meth c H locs 0 0 (MQ below (va_Qv (fun (u : Int32) => Q u) (cB (dC, dI) (kT cyB cyI cyJ cyP) A (fun u : Int32 => ((qvM a0 jha jhi jjQ jjU jkJ jiT jj1 jjT jaN ja4 jbw u jha cyI jiR jjQ cyI jlB jhi cyI jiP jjU cyI jlx) : va_W))) A) args s 0 0 A) (F0 m 7 ls [])) (C0 : cfx p s m args meth c cX2_findSafe none wsX2_findSafe RX2 2 A (dC, dI) (kT cyB cyI cyJ cyP)) : ∀ (H : Heap) (locs : List Loc) (ls : Array Slot) (jmw l1 : Int32), va_P (dC, dI) vwCl (qvM a0 jha jhi jjQ jjU jkJ jiT jj1 jjT jaN ja4 jbw jmw jha cyI jiR jjQ cyI jlB jhi cyI jiP jjU cyI jlx) H → va_D A (qvM a0 jha jhi jjQ jjU jkJ jiT jj1 jjT jaN ja4 jbw jmw jha cyI jiR jjQ cyI jlB jhi cyI jiP jjU cyI jlx) → va_S A s.heap H locs → lv_has ls 2 [(0, .ref a0), (1, .int l1)] → qJN jaN jbw jiR jlB jiP jlx Q K7 jmw l1 → W p l e (headSpec wsX2_findSafe ({ frames := 2, cells := 0, slots := 0, locals := 54 })).room s m args below meth c H locs 0 0 (MQ below (va_Qv (fun (u : Int32) => Q u) (cB (dC, dI) (kT cyB cyI cyJ cyP) A (fun u : Int32 => ((qvM a0 jha jhi jjQ jjU jkJ jiT jj1 jjT jaN ja4 jbw u jha cyI jiR jjQ cyI jlB jhi cyI jiP jjU cyI jlx) : va_W))) A) args s 0 0 A) (F0 m 35 ls []) := by
  obtain ⟨hx, hb, hr, hts, hown, hlocks, hml, hA, hK, hNw⟩ := id C0
  intro H locs ls jmw l1 hP hD hS hl hw
  obtain ⟨x5, ex5⟩ : ∃ y : Int32, y = l1 + 1 := ⟨_, rfl⟩
  have hw := hw x5 ex5
  refine lv_iinc (v := x5) (lv' := [(1, .int x5), (0, .ref a0)]) hx hb (qaa qrA 5 rfl) hl (k := 1) rfl (by rw [ex5]; rfl) (by decide) rfl (fun ls hl => ?_)
  refine lv_goto (tgt := 7) hx hb (qaa qrA 6 rfl) (by decide) ?_
  exact hK7 _ _ _ jmw x5 hP hD hS (lv_sub hl [1, 0] rfl) hw
set_option maxHeartbeats 4000000 in
set_option maxRecDepth 100000 in
theorem qas9 {p : Program} {l : Launch} {e : Env} {s : State} {m : MethodId} {args : Array Value} {below : List Frame} {meth : Method} {c : Code} {A : Nat → Prop} (dC : Nat → ClassId) (dI : Nat → Nat → Nat) (cyB cyI cyJ cyP : ClassId) (a0 jha jjQ jhi jjU : Nat) (jkJ jiT jj1 jjT ja4 : Value) (jaN jbw : Int32) (jiR jlB jiP jlx : NI) (Q : Int32 → Prop) (C0 : cfx p s m args meth c cX2_findSafe none wsX2_findSafe RX2 2 A (dC, dI) (kT cyB cyI cyJ cyP)) : ∀ (n : Nat) (H : Heap) (locs : List Loc) (ls : Array Slot) (jmw l1 : Int32), va_P (dC, dI) vwCl (qvM a0 jha jhi jjQ jjU jkJ jiT jj1 jjT jaN ja4 jbw jmw jha cyI jiR jjQ cyI jlB jhi cyI jiP jjU cyI jlx) H → va_D A (qvM a0 jha jhi jjQ jjU jkJ jiT jj1 jjT jaN ja4 jbw jmw jha cyI jiR jjQ cyI jlB jhi cyI jiP jjU cyI jlx) → va_S A s.heap H locs → lv_has ls 2 [(0, .ref a0), (1, .int l1)] → qqN jaN jbw jiR jlB jiP jlx Q n jmw l1 → W p l e (headSpec wsX2_findSafe ({ frames := 2, cells := 0, slots := 0, locals := 54 })).room s m args below meth c H locs 0 0 (MQ below (va_Qv (fun (u : Int32) => Q u) (cB (dC, dI) (kT cyB cyI cyJ cyP) A (fun u : Int32 => ((qvM a0 jha jhi jjQ jjU jkJ jiT jj1 jjT jaN ja4 jbw u jha cyI jiR jjQ cyI jlB jhi cyI jiP jjU cyI jlx) : va_W))) A) args s 0 0 A) (F0 m 7 ls []) := by
  obtain ⟨hx, hb, hr, hts, hown, hlocks, hml, hA, hK, hNw⟩ := id C0
  intro n
  induction n with
  | zero => intro H locs ls jmw l1 hP hD hS hl hw; exact False.elim hw
  | succ n ih =>
    intro H locs ls jmw l1 hP hD hS hl hw
    refine lv_iload_n hx hb (qaa qfP 5 rfl) rfl (lv_at hl 1 rfl) ?_
    refine lv_aload_n hx hb (qaa qfP 6 rfl) rfl (lv_at hl 0 rfl) ?_
    refine va_get (D := (dC, dI)) (ci := 2) (v := .int jaN) (C := RX2) (T := TX2) (N := 12) hx hb hts qCJ hown hK hP 0 rfl rfl 8 (by decide) (hts _ qafv) (fun _ h9 => h9) rfl (qaa qfP 7 rfl) ?_
    refine lv_icmp_ge (tgt := 41) hx hb (qaa qfP 8 rfl) (by decide) (fun c1 => ?_) (fun c1 => ?_)
    · have hw := hw.1 c1
      exact ((W.vret hx hb hr (fun t ht hW => ⟨⟨(jmw), rfl, hw, by rw [ht]; exact hP, va_K.moved hW.alike hK, hD⟩, hS.F ht⟩) hS.2.2 (qaa qrA 7 rfl)))
    · have hw := hw.2 c1
      refine lv_aload_n hx hb (qaa qfP 9 rfl) rfl (lv_at hl 0 rfl) ?_
      refine lv_iload_n hx hb (qaa qfP 10 rfl) rfl (lv_at hl 1 rfl) ?_
      obtain ⟨hCc, hPc, hDc, hFc⟩ := qac (ws' := (qvM a0 jha jhi jjQ jjU jkJ jiT jj1 jjT jaN ja4 jbw jmw jha cyI jiR jjQ cyI jlB jhi cyI jiP jjU cyI jlx)) hP hD hS hA [0, 1, 2, 3, 4] (by decide +kernel) rfl
      refine va_calli (va_runV (As := [.int l1]) (rest := []) ⟨hx, hb, hml, hown, hts⟩ (qawV l dC dI cyB cyI cyJ cyP a0 jha jjQ jhi jjU H.size (jkJ) (jiT) (jj1) (jjT) (.int jaN) (ja4) (.int jmw) jbw jiR jlB jiP jlx l1 hw) (cwV 1 hts gX2_findSafe_X2_foxIsNear rfl rfl rfl (by decide +kernel) ⟨nbq rfl, nbq rfl⟩) ⟨qab, va_recv (q := (RX2, TX2, 12)) hK hPc (ci := 2) (q0 := 0) rfl rfl, qae hPc hK hDc hNw⟩ rfl rfl hl.1 rfl (lv_room (nbq rfl)) (qaa qfP 11 rfl) ⟨nbq rfl, nbq rfl⟩) hS (fun q _ h => hFc q h) hFc (fun r2 u t H1 locs ht hvm hw hB hz1 hk1 hS => ?_)
      obtain ⟨hP1, hK1, hD1⟩ := hB
      rw [ht] at hP1
      obtain ⟨hP, hD⟩ := qah (wr := []) (w1 := (qvM a0 jha jhi jjQ jjU jkJ jiT jj1 jjT jaN ja4 jbw jmw jha cyI jiR jjQ cyI jlB jhi cyI jiP jjU cyI jlx)) (wn := (qvM a0 jha jhi jjQ jjU jkJ jiT jj1 jjT jaN ja4 jbw jmw jha cyI jiR jjQ cyI jlB jhi cyI jiP jjU cyI jlx)) hP hD [0, 1, 2, 3, 4] [] hCc rfl (by decide +kernel) (by decide +kernel) rfl hk1 hFc hP1 hD1
      generalize H1 = H at hP hS ⊢
      refine lv_if_ne (tgt := 35) hx hb (qaa qfP 12 rfl) (by decide) (fun c3 => ?_) (fun c3 => ?_)
      · have hw := hw.1 c3
        exact qVk dC dI cyB cyI cyJ cyP a0 jha jjQ jhi jjU jkJ jiT jj1 jjT ja4 jaN jbw jiR jlB jiP jlx Q (qqN jaN jbw jiR jlB jiP jlx Q n) ih C0 _ _ _ jmw l1 hP hD hS (lv_sub hl [0, 1] rfl) hw
      · have hw := hw.2 c3
        refine lv_aload_n hx hb (qaa qfP 13 rfl) rfl (lv_at hl 0 rfl) ?_
        refine lv_dup hx hb (qaa qfP 14 rfl) rfl ?_
        refine va_get (D := (dC, dI)) (ci := 2) (v := .int jmw) (C := RX2) (T := TX2) (N := 12) hx hb hts qCJ hown hK hP 0 rfl rfl 11 (by decide) (hts _ qFF) (fun _ h9 => h9) rfl (qaa qfP 15 rfl) ?_
        refine lv_iconst (v := 1) hx hb (qaa qrA 0 rfl) (by decide) ?_
        refine lv_iload_n hx hb (qaa qrA 1 rfl) rfl (lv_at hl 1 rfl) ?_
        refine lv_ishl hx hb (qaa qrA 2 rfl) ?_
        refine lv_ior hx hb (qaa qrA 3 rfl) ?_
        refine lv_topi (fun x4 ex4 => ?_)
        have hw := hw x4 ex4
        refine va_put (D := (dC, dI)) (ci := 2) (v := .int x4) (ty := .int) (C := RX2) (T := TX2) (N := 12) hx hb hts qCJ tyX2 tyX2_ok nmX2 hown hK hP hD hS 0 rfl rfl 11 (by decide) (hts _ qFF) (fun _ h9 => h9) rfl (by decide +kernel) rfl rfl (nbq rfl) (qaa qrA 4 rfl) (fun H locs hP hD hS => ?_)
        have hP : va_P (dC, dI) vwCl (qvM a0 jha jhi jjQ jjU jkJ jiT jj1 jjT jaN ja4 jbw x4 jha cyI jiR jjQ cyI jlB jhi cyI jiP jjU cyI jlx) H := hP
        have hD : va_D A (qvM a0 jha jhi jjQ jjU jkJ jiT jj1 jjT jaN ja4 jbw x4 jha cyI jiR jjQ cyI jlB jhi cyI jiP jjU cyI jlx) := hD
        exact qVk dC dI cyB cyI cyJ cyP a0 jha jjQ jhi jjU jkJ jiT jj1 jjT ja4 jaN jbw jiR jlB jiP jlx Q (qqN jaN jbw jiR jlB jiP jlx Q n) ih C0 _ _ _ x4 l1 hP hD hS (lv_sub hl [0, 1] rfl) hw
set_option maxHeartbeats 4000000 in
set_option maxRecDepth 100000 in
theorem qaGA (l : Launch) (dC : Nat → ClassId) (dI : Nat → Nat → Nat) (cyB cyI cyJ cyP : ClassId) (a0 jha jjQ jhi jjU sz : Nat) (jkJ jiT jj1 jjT ja4 : Value) (jaN jbw : Int32) (jiR jlB jiP jlx : NI) (jmw : Int32) {Q : Int32 → Prop} (hw : qKU jaN jbw jiR jlB jiP jlx jmw Q) : Met l yX2_findSafe wsX2_findSafe ({ frames := 2, cells := 0, slots := 0, locals := 54 }) (va_Pc [.ref a0] (cPc (dC, dI) (kT cyB cyI cyJ cyP) (qvM a0 jha jhi jjQ jjU jkJ jiT jj1 jjT jaN ja4 jbw jmw jha cyI jiR jjQ cyI jlB jhi cyI jiP jjU cyI jlx) sz)) (va_Qv (fun (u : Int32) => Q u) (cB (dC, dI) (kT cyB cyI cyJ cyP) (va_A (qvM a0 jha jhi jjQ jjU jkJ jiT jj1 jjT jaN ja4 jbw jmw jha cyI jiR jjQ cyI jlB jhi cyI jiP jjU cyI jlx) sz) (fun u : Int32 => ((qvM a0 jha jhi jjQ jjU jkJ jiT jj1 jjT jaN ja4 jbw u jha cyI jiR jjQ cyI jlB jhi cyI jiP jjU cyI jlx) : va_W))) (va_A (qvM a0 jha jhi jjQ jjU jkJ jiT jj1 jjT jaN ja4 jbw jmw jha cyI jiR jjQ cyI jlB jhi cyI jiP jjU cyI jlx) sz)) 0 0 (va_A (qvM a0 jha jhi jjQ jjU jkJ jiT jj1 jjT jaN ja4 jbw jmw jha cyI jiR jjQ cyI jlB jhi cyI jiP jjU cyI jlx) sz) := by
  refine Met.ofW (cc := cX2_findSafe) (maxL := 2) (ret := none) (by decide) rfl ?_
  intro p e s m args below meth c s₁ B hml hv
  obtain ⟨rfl, hsz, hP, hK, hD0, hNw⟩ := hv
  have hx := B.exec
  have hb := B.bytes
  have hr := B.returns
  have hts := atoms_spec (ws := wsX2_findSafe) B.pre
  have hown : s.vm.findClass RX2 = some m.cls := findClass_of_methodNamed B.named
  have hlocks := B.notSynchronized
  subst hsz
  have hD := hD0.self (sz := s.heap.size)
  generalize hAe : va_A (qvM a0 jha jhi jjQ jjU jkJ jiT jj1 jjT jaN ja4 jbw jmw jha cyI jiR jjQ cyI jlB jhi cyI jiP jjU cyI jlx) s.heap.size = A at hD ⊢
  have hA : ∀ q : Nat, s.heap.size ≤ q → A q := fun q h => by rw [← hAe]; exact Or.inr h
  have hS : va_S A s.heap s.heap [] := va_S.rf
  have hP : va_P (dC, dI) vwCl (qvM a0 jha jhi jjQ jjU jkJ jiT jj1 jjT jaN ja4 jbw jmw jha cyI jiR jjQ cyI jlB jhi cyI jiP jjU cyI jlx) s.heap := hP
  have hl := lv_entry ([.ref a0]) (n := 2) (nbq rfl)
  rw [lg_entry_eq]
  generalize (lg_sl ([.ref a0]) ++ List.replicate (2 - (lg_sl ([.ref a0])).length) Slot.unset).toArray = ls at hl ⊢
  have hl : lv_has ls 2 [(0, .ref a0)] := hl
  have C0 : cfx p s m _ meth c cX2_findSafe none wsX2_findSafe RX2 2 A (dC, dI) (kT cyB cyI cyJ cyP) := ⟨hx, hb, hr, hts, hown, hlocks, hml, hA, hK, hNw⟩
  clear hAe
  obtain ⟨H, hH⟩ : ∃ H, H = s.heap := ⟨_, rfl⟩
  rw [← hH] at hP ⊢
  have hS : va_S A s.heap H [] := by rw [hH]; exact va_S.rf
  have hS := hS
  refine lv_aload_n hx hb (qaa qfP 0 rfl) rfl (lv_at hl 0 rfl) ?_
  refine lv_iconst (v := 0) hx hb (qaa qfP 1 rfl) (by decide) ?_
  refine va_put (D := (dC, dI)) (ci := 2) (v := .int 0) (ty := .int) (C := RX2) (T := TX2) (N := 12) hx hb hts qCJ tyX2 tyX2_ok nmX2 hown hK hP hD hS 0 rfl rfl 11 (by decide) (hts _ qFF) (fun _ h9 => h9) rfl (by decide +kernel) rfl rfl (nbq rfl) (qaa qfP 2 rfl) (fun H locs hP hD hS => ?_)
  have hP : va_P (dC, dI) vwCl (qvM a0 jha jhi jjQ jjU jkJ jiT jj1 jjT jaN ja4 jbw 0 jha cyI jiR jjQ cyI jlB jhi cyI jiP jjU cyI jlx) H := hP
  have hD : va_D A (qvM a0 jha jhi jjQ jjU jkJ jiT jj1 jjT jaN ja4 jbw 0 jha cyI jiR jjQ cyI jlB jhi cyI jiP jjU cyI jlx) := hD
  refine lv_iconst (v := 0) hx hb (qaa qfP 3 rfl) (by decide) ?_
  refine lv_istore_n (lv' := [(1, .int 0), (0, .ref a0)]) hx hb (qaa qfP 4 rfl) rfl hl (by decide) rfl (fun ls hl => ?_)
  obtain ⟨n9, hw⟩ := hw
  exact qas9 dC dI cyB cyI cyJ cyP a0 jha jjQ jhi jjU jkJ jiT jj1 jjT ja4 jaN jbw jiR jlB jiP jlx Q C0 n9 _ _ _ 0 0 hP hD hS (lv_sub hl [1, 0] rfl) hw
theorem qBS : ∀ w ∈ u_ws RX4 TX4 5, w ∈ wsX4_add := uiM qauU euX4 (by decide +kernel)
theorem qaPr : (.fieldLink RX4 15 "MarchHares$Law" "values" "[I" : Cond) ∈ wsX4_add := qauU 201 (by decide +kernel)
theorem qIe : (.fieldLink RX4 27 "MarchHares$Law" "length" "I" : Cond) ∈ wsX4_add := qauU 208 (by decide +kernel)
theorem qaUj : (.fieldLink RX4 9 "MarchHares$Law" "kinds" "[I" : Cond) ∈ wsX4_add := qauU 200 (by decide +kernel)
set_option maxHeartbeats 4000000 in
set_option maxRecDepth 100000 in
theorem qrx (l : Launch) (dC : Nat → ClassId) (dI : Nat → Nat → Nat) (cyB cyI cyJ cyP : ClassId) (a0 jbU jcJ sz : Nat) (jhV jaE : Value) (jdC jfV : NI) (jb7 p1 p2 : Int32) {Q : NI → NI → Int32 → Prop} (hw : qoN jdC jfV jb7 p1 p2 Q) : Met l yX4_add wsX4_add ({ frames := 0, cells := 0, slots := 0, locals := 0 }) (va_Pc [.ref a0, .int p1, .int p2] (cPc (dC, dI) (kT cyB cyI cyJ cyP) (qoH a0 jbU jcJ jhV jaE jb7 jbU cyI jdC jcJ cyI jfV) sz)) (va_Qv (fun (u : NI × NI × Int32) => Q u.1 u.2.1 u.2.2) (cB (dC, dI) (kT cyB cyI cyJ cyP) (va_A (qoH a0 jbU jcJ jhV jaE jb7 jbU cyI jdC jcJ cyI jfV) sz) (fun u : NI × NI × Int32 => ((qoH a0 jbU jcJ jhV jaE u.2.2 jbU cyI u.1 jcJ cyI u.2.1) : va_W))) (va_A (qoH a0 jbU jcJ jhV jaE jb7 jbU cyI jdC jcJ cyI jfV) sz)) 0 0 (va_A (qoH a0 jbU jcJ jhV jaE jb7 jbU cyI jdC jcJ cyI jfV) sz) := by
  refine Met.ofW (cc := cX4_add) (maxL := 3) (ret := none) (by decide) rfl ?_
  intro p e s m args below meth c s₁ B hml hv
  obtain ⟨rfl, hsz, hP, hK, hD0, hNw⟩ := hv
  have hx := B.exec
  have hb := B.bytes
  have hr := B.returns
  have hts := atoms_spec (ws := wsX4_add) B.pre
  have hown : s.vm.findClass RX4 = some m.cls := findClass_of_methodNamed B.named
  have hlocks := B.notSynchronized
  subst hsz
  have hD := hD0.self (sz := s.heap.size)
  generalize hAe : va_A (qoH a0 jbU jcJ jhV jaE jb7 jbU cyI jdC jcJ cyI jfV) s.heap.size = A at hD ⊢
  have hA : ∀ q : Nat, s.heap.size ≤ q → A q := fun q h => by rw [← hAe]; exact Or.inr h
  have hS : va_S A s.heap s.heap [] := va_S.rf
  have hP : va_P (dC, dI) vwCl (qoH a0 jbU jcJ jhV jaE jb7 jbU cyI jdC jcJ cyI jfV) s.heap := hP
  have hl := lv_entry ([.ref a0, .int p1, .int p2]) (n := 3) (nbq rfl)
  rw [lg_entry_eq]
  generalize (lg_sl ([.ref a0, .int p1, .int p2]) ++ List.replicate (3 - (lg_sl ([.ref a0, .int p1, .int p2])).length) Slot.unset).toArray = ls at hl ⊢
  have hl : lv_has ls 3 [(0, .ref a0), (1, .int p1), (2, .int p2)] := hl
  have C0 : cfx p s m _ meth c cX4_add none wsX4_add RX4 3 A (dC, dI) (kT cyB cyI cyJ cyP) := ⟨hx, hb, hr, hts, hown, hlocks, hml, hA, hK, hNw⟩
  clear hAe
  obtain ⟨H, hH⟩ : ∃ H, H = s.heap := ⟨_, rfl⟩
  rw [← hH] at hP ⊢
  have hS : va_S A s.heap H [] := by rw [hH]; exact va_S.rf
  have hS := hS
  refine lv_aload_n hx hb (qaa qqc 0 rfl) rfl (lv_at hl 0 rfl) ?_
  refine va_get (D := (dC, dI)) (ci := 4) (v := .int jb7) (C := RX4) (T := TX4) (N := 5) hx hb hts qBS hown hK hP 0 rfl rfl 4 (by decide) (hts _ qIe) (fun _ h9 => h9) rfl (qaa qqc 1 rfl) ?_
  refine lv_sipush (v := 150) hx hb (qaa qqc 2 rfl) (by decide) ?_
  refine lv_icmp_ge (tgt := 40) hx hb (qaa qqc 3 rfl) (by decide) (fun c1 => ?_) (fun c1 => ?_)
  · have hw := hw.1 c1
    exact ((W.vret hx hb hr (fun t ht hW => ⟨⟨(jdC, jfV, jb7), rfl, hw, by rw [ht]; exact hP, va_K.moved hW.alike hK, hD⟩, hS.F ht⟩) hS.2.2 (qaa qy3 6 rfl)))
  · have hw := hw.2 c1
    refine lv_aload_n hx hb (qaa qqc 4 rfl) rfl (lv_at hl 0 rfl) ?_
    refine va_get (D := (dC, dI)) (ci := 4) (v := .ref jbU) (C := RX4) (T := TX4) (N := 5) hx hb hts qBS hown hK hP 0 rfl rfl 0 (by decide) (hts _ qaUj) (fun _ h9 => h9) rfl (qaa qqc 5 rfl) ?_
    refine lv_aload_n hx hb (qaa qqc 6 rfl) rfl (lv_at hl 0 rfl) ?_
    refine va_get (D := (dC, dI)) (ci := 4) (v := .int jb7) (C := RX4) (T := TX4) (N := 5) hx hb hts qBS hown hK hP 0 rfl rfl 4 (by decide) (hts _ qIe) (fun _ h9 => h9) rfl (qaa qqc 7 rfl) ?_
    refine lv_iload_n hx hb (qaa qqc 8 rfl) rfl (lv_at hl 1 rfl) ?_
    obtain ⟨hi9, hw⟩ := hw
    refine va_iast hx hb hK hP hD hS 1 1 rfl rfl hi9 (qaa qqc 9 rfl) (fun H locs hP hD hS => ?_)
    obtain ⟨f2, ef2⟩ : ∃ y : NI, y = upd jdC jb7.toNatClampNeg p1 := ⟨_, rfl⟩
    have hw := hw f2 ef2
    have hP : va_P (dC, dI) vwCl (qoH a0 jbU jcJ jhV jaE jb7 jbU cyI f2 jcJ cyI jfV) H := by rw [ef2]; exact hP
    have hD : va_D A (qoH a0 jbU jcJ jhV jaE jb7 jbU cyI f2 jcJ cyI jfV) := by rw [ef2]; exact hD
    refine lv_aload_n hx hb (qaa qqc 10 rfl) rfl (lv_at hl 0 rfl) ?_
    refine va_get (D := (dC, dI)) (ci := 4) (v := .ref jcJ) (C := RX4) (T := TX4) (N := 5) hx hb hts qBS hown hK hP 0 rfl rfl 1 (by decide) (hts _ qaPr) (fun _ h9 => h9) rfl (qaa qqc 11 rfl) ?_
    refine lv_aload_n hx hb (qaa qqc 12 rfl) rfl (lv_at hl 0 rfl) ?_
    refine va_get (D := (dC, dI)) (ci := 4) (v := .int jb7) (C := RX4) (T := TX4) (N := 5) hx hb hts qBS hown hK hP 0 rfl rfl 4 (by decide) (hts _ qIe) (fun _ h9 => h9) rfl (qaa qqc 13 rfl) ?_
    refine lv_iload_n hx hb (qaa qqc 14 rfl) rfl (lv_at hl 2 rfl) ?_
    obtain ⟨hi9, hw⟩ := hw
    refine va_iast hx hb hK hP hD hS 2 1 rfl rfl hi9 (qaa qqc 15 rfl) (fun H locs hP hD hS => ?_)
    obtain ⟨f3, ef3⟩ : ∃ y : NI, y = upd jfV jb7.toNatClampNeg p2 := ⟨_, rfl⟩
    have hw := hw f3 ef3
    have hP : va_P (dC, dI) vwCl (qoH a0 jbU jcJ jhV jaE jb7 jbU cyI f2 jcJ cyI f3) H := by rw [ef3]; exact hP
    have hD : va_D A (qoH a0 jbU jcJ jhV jaE jb7 jbU cyI f2 jcJ cyI f3) := by rw [ef3]; exact hD
    refine lv_aload_n hx hb (qaa qy3 0 rfl) rfl (lv_at hl 0 rfl) ?_
    refine lv_dup hx hb (qaa qy3 1 rfl) rfl ?_
    refine va_get (D := (dC, dI)) (ci := 4) (v := .int jb7) (C := RX4) (T := TX4) (N := 5) hx hb hts qBS hown hK hP 0 rfl rfl 4 (by decide) (hts _ qIe) (fun _ h9 => h9) rfl (qaa qy3 2 rfl) ?_
    refine lv_iconst (v := 1) hx hb (qaa qy3 3 rfl) (by decide) ?_
    refine lv_iadd hx hb (qaa qy3 4 rfl) ?_
    refine lv_topi (fun x4 ex4 => ?_)
    have hw := hw x4 ex4
    refine va_put (D := (dC, dI)) (ci := 4) (v := .int x4) (ty := .int) (C := RX4) (T := TX4) (N := 5) hx hb hts qBS tyX4 tyX4_ok nmX4 hown hK hP hD hS 0 rfl rfl 4 (by decide) (hts _ qIe) (fun _ h9 => h9) rfl (by decide +kernel) rfl rfl (nbq rfl) (qaa qy3 5 rfl) (fun H locs hP hD hS => ?_)
    have hP : va_P (dC, dI) vwCl (qoH a0 jbU jcJ jhV jaE x4 jbU cyI f2 jcJ cyI f3) H := hP
    have hD : va_D A (qoH a0 jbU jcJ jhV jaE x4 jbU cyI f2 jcJ cyI f3) := hD
    exact ((W.vret hx hb hr (fun t ht hW => ⟨⟨(f2, f3, x4), rfl, hw, by rw [ht]; exact hP, va_K.moved hW.alike hK, hD⟩, hS.F ht⟩) hS.2.2 (qaa qy3 6 rfl)))
theorem qald : ∀ w ∈ u_ws RX4 TX4 5, w ∈ wsX4_setPlain := uiM qNT euX4 (by decide +kernel)
theorem qafm : (.fieldLink RX4 27 "MarchHares$Law" "length" "I" : Cond) ∈ wsX4_setPlain := qNT 208 (by decide +kernel)
set_option maxHeartbeats 4000000 in
set_option maxRecDepth 100000 in
theorem q7G (l : Launch) (dC : Nat → ClassId) (dI : Nat → Nat → Nat) (cyB cyI cyJ cyP : ClassId) (a0 jbU jcJ sz : Nat) (jhV jaE : Value) (jb7 : Int32) (jdC jfV : NI) {Q : Int32 → NI → NI → Prop} (hw : qxH jb7 jdC jfV Q) : Met l yX4_setPlain wsX4_setPlain ({ frames := 1, cells := 0, slots := 0, locals := 22 }) (va_Pc [.ref a0] (cPc (dC, dI) (kT cyB cyI cyJ cyP) (qoH a0 jbU jcJ jhV jaE jb7 jbU cyI jdC jcJ cyI jfV) sz)) (va_Qv (fun (u : Int32 × NI × NI) => Q u.1 u.2.1 u.2.2) (cB (dC, dI) (kT cyB cyI cyJ cyP) (va_A (qoH a0 jbU jcJ jhV jaE jb7 jbU cyI jdC jcJ cyI jfV) sz) (fun u : Int32 × NI × NI => ((qoH a0 jbU jcJ jhV jaE u.1 jbU cyI u.2.1 jcJ cyI u.2.2) : va_W))) (va_A (qoH a0 jbU jcJ jhV jaE jb7 jbU cyI jdC jcJ cyI jfV) sz)) 0 0 (va_A (qoH a0 jbU jcJ jhV jaE jb7 jbU cyI jdC jcJ cyI jfV) sz) := by
  refine Met.ofW (cc := cX4_setPlain) (maxL := 1) (ret := none) (by decide) rfl ?_
  intro p e s m args below meth c s₁ B hml hv
  obtain ⟨rfl, hsz, hP, hK, hD0, hNw⟩ := hv
  have hx := B.exec
  have hb := B.bytes
  have hr := B.returns
  have hts := atoms_spec (ws := wsX4_setPlain) B.pre
  have hown : s.vm.findClass RX4 = some m.cls := findClass_of_methodNamed B.named
  have hlocks := B.notSynchronized
  subst hsz
  have hD := hD0.self (sz := s.heap.size)
  generalize hAe : va_A (qoH a0 jbU jcJ jhV jaE jb7 jbU cyI jdC jcJ cyI jfV) s.heap.size = A at hD ⊢
  have hA : ∀ q : Nat, s.heap.size ≤ q → A q := fun q h => by rw [← hAe]; exact Or.inr h
  have hS : va_S A s.heap s.heap [] := va_S.rf
  have hP : va_P (dC, dI) vwCl (qoH a0 jbU jcJ jhV jaE jb7 jbU cyI jdC jcJ cyI jfV) s.heap := hP
  have hl := lv_entry ([.ref a0]) (n := 1) (nbq rfl)
  rw [lg_entry_eq]
  generalize (lg_sl ([.ref a0]) ++ List.replicate (1 - (lg_sl ([.ref a0])).length) Slot.unset).toArray = ls at hl ⊢
  have hl : lv_has ls 1 [(0, .ref a0)] := hl
  have C0 : cfx p s m _ meth c cX4_setPlain none wsX4_setPlain RX4 1 A (dC, dI) (kT cyB cyI cyJ cyP) := ⟨hx, hb, hr, hts, hown, hlocks, hml, hA, hK, hNw⟩
  clear hAe
  obtain ⟨H, hH⟩ : ∃ H, H = s.heap := ⟨_, rfl⟩
  rw [← hH] at hP ⊢
  have hS : va_S A s.heap H [] := by rw [hH]; exact va_S.rf
  have hS := hS
  refine lv_aload_n hx hb (qaa qfp 0 rfl) rfl (lv_at hl 0 rfl) ?_
  refine lv_iconst (v := 0) hx hb (qaa qfp 1 rfl) (by decide) ?_
  refine va_put (D := (dC, dI)) (ci := 4) (v := .int 0) (ty := .int) (C := RX4) (T := TX4) (N := 5) hx hb hts qald tyX4 tyX4_ok nmX4 hown hK hP hD hS 0 rfl rfl 4 (by decide) (hts _ qafm) (fun _ h9 => h9) rfl (by decide +kernel) rfl rfl (nbq rfl) (qaa qfp 2 rfl) (fun H locs hP hD hS => ?_)
  have hP : va_P (dC, dI) vwCl (qoH a0 jbU jcJ jhV jaE 0 jbU cyI jdC jcJ cyI jfV) H := hP
  have hD : va_D A (qoH a0 jbU jcJ jhV jaE 0 jbU cyI jdC jcJ cyI jfV) := hD
  refine lv_aload_n hx hb (qaa qfp 3 rfl) rfl (lv_at hl 0 rfl) ?_
  refine lv_iconst (v := 0) hx hb (qaa qfp 4 rfl) (by decide) ?_
  refine lv_iconst (v := 4) hx hb (qaa qfp 5 rfl) (by decide) ?_
  obtain ⟨hCc, hPc, hDc, hFc⟩ := qac (ws' := (qoH a0 jbU jcJ jhV jaE 0 jbU cyI jdC jcJ cyI jfV)) hP hD hS hA [0, 1, 2] (by decide +kernel) rfl
  refine va_callv (va_runV (As := [.int 0, .int 4]) (rest := []) ⟨hx, hb, hml, hown, hts⟩ (qrx l dC dI cyB cyI cyJ cyP a0 jbU jcJ H.size (jhV) (jaE) jdC jfV 0 0 4 hw) (cwV 2 hts gX4_setPlain_X4_add rfl rfl rfl (by decide +kernel) ⟨nbq rfl, nbq rfl⟩) ⟨qab, va_recv (q := (RX4, TX4, 5)) hK hPc (ci := 4) (q0 := 0) rfl rfl, qae hPc hK hDc hNw⟩ rfl rfl hl.1 rfl (lv_room (nbq rfl)) (qaa qfp 6 rfl) ⟨nbq rfl, nbq rfl⟩) hS (fun q _ h => hFc q h) hFc (fun u t H1 locs ht hvm hw hB hz1 hk1 hS => ?_)
  obtain ⟨f1, f2, x3⟩ := u
  obtain ⟨hP1, hK1, hD1⟩ := hB
  rw [ht] at hP1
  obtain ⟨hP, hD⟩ := qah (wr := []) (w1 := (qoH a0 jbU jcJ jhV jaE x3 jbU cyI f1 jcJ cyI f2)) (wn := (qoH a0 jbU jcJ jhV jaE x3 jbU cyI f1 jcJ cyI f2)) hP hD [0, 1, 2] [] hCc rfl (by decide +kernel) (by decide +kernel) rfl hk1 hFc hP1 hD1
  generalize H1 = H at hP hS ⊢
  refine lv_aload_n hx hb (qaa qfp 7 rfl) rfl (lv_at hl 0 rfl) ?_
  refine lv_iconst (v := 1) hx hb (qaa qfp 8 rfl) (by decide) ?_
  refine lv_iconst (v := 0) hx hb (qaa qfp 9 rfl) (by decide) ?_
  obtain ⟨hCc, hPc, hDc, hFc⟩ := qac (ws' := (qoH a0 jbU jcJ jhV jaE x3 jbU cyI f1 jcJ cyI f2)) hP hD hS hA [0, 1, 2] (by decide +kernel) rfl
  refine va_callv (va_runV (As := [.int 1, .int 0]) (rest := []) ⟨hx, hb, hml, hown, hts⟩ (qrx l dC dI cyB cyI cyJ cyP a0 jbU jcJ H.size (jhV) (jaE) f1 f2 x3 1 0 hw) (cwV 2 hts gX4_setPlain_X4_add rfl rfl rfl (by decide +kernel) ⟨nbq rfl, nbq rfl⟩) ⟨qab, va_recv (q := (RX4, TX4, 5)) hK hPc (ci := 4) (q0 := 0) rfl rfl, qae hPc hK hDc hNw⟩ rfl rfl hl.1 rfl (lv_room (nbq rfl)) (qaa qfp 10 rfl) ⟨nbq rfl, nbq rfl⟩) hS (fun q _ h => hFc q h) hFc (fun u t H1 locs ht hvm hw hB hz1 hk1 hS => ?_)
  obtain ⟨f4, f5, x6⟩ := u
  obtain ⟨hP1, hK1, hD1⟩ := hB
  rw [ht] at hP1
  obtain ⟨hP, hD⟩ := qah (wr := []) (w1 := (qoH a0 jbU jcJ jhV jaE x6 jbU cyI f4 jcJ cyI f5)) (wn := (qoH a0 jbU jcJ jhV jaE x6 jbU cyI f4 jcJ cyI f5)) hP hD [0, 1, 2] [] hCc rfl (by decide +kernel) (by decide +kernel) rfl hk1 hFc hP1 hD1
  generalize H1 = H at hP hS ⊢
  refine lv_aload_n hx hb (qaa qfp 11 rfl) rfl (lv_at hl 0 rfl) ?_
  refine lv_iconst (v := 2) hx hb (qaa qfp 12 rfl) (by decide) ?_
  refine lv_iconst (v := 0) hx hb (qaa qfp 13 rfl) (by decide) ?_
  obtain ⟨hCc, hPc, hDc, hFc⟩ := qac (ws' := (qoH a0 jbU jcJ jhV jaE x6 jbU cyI f4 jcJ cyI f5)) hP hD hS hA [0, 1, 2] (by decide +kernel) rfl
  refine va_callv (va_runV (As := [.int 2, .int 0]) (rest := []) ⟨hx, hb, hml, hown, hts⟩ (qrx l dC dI cyB cyI cyJ cyP a0 jbU jcJ H.size (jhV) (jaE) f4 f5 x6 2 0 hw) (cwV 2 hts gX4_setPlain_X4_add rfl rfl rfl (by decide +kernel) ⟨nbq rfl, nbq rfl⟩) ⟨qab, va_recv (q := (RX4, TX4, 5)) hK hPc (ci := 4) (q0 := 0) rfl rfl, qae hPc hK hDc hNw⟩ rfl rfl hl.1 rfl (lv_room (nbq rfl)) (qaa qfp 14 rfl) ⟨nbq rfl, nbq rfl⟩) hS (fun q _ h => hFc q h) hFc (fun u t H1 locs ht hvm hw hB hz1 hk1 hS => ?_)
  obtain ⟨f7, f8, x9⟩ := u
  obtain ⟨hP1, hK1, hD1⟩ := hB
  rw [ht] at hP1
  obtain ⟨hP, hD⟩ := qah (wr := []) (w1 := (qoH a0 jbU jcJ jhV jaE x9 jbU cyI f7 jcJ cyI f8)) (wn := (qoH a0 jbU jcJ jhV jaE x9 jbU cyI f7 jcJ cyI f8)) hP hD [0, 1, 2] [] hCc rfl (by decide +kernel) (by decide +kernel) rfl hk1 hFc hP1 hD1
  generalize H1 = H at hP hS ⊢
  refine lv_aload_n hx hb (qaa qfp 15 rfl) rfl (lv_at hl 0 rfl) ?_
  refine lv_iconst (v := 1) hx hb (qaa qru 0 rfl) (by decide) ?_
  refine lv_iconst (v := 1) hx hb (qaa qru 1 rfl) (by decide) ?_
  obtain ⟨hCc, hPc, hDc, hFc⟩ := qac (ws' := (qoH a0 jbU jcJ jhV jaE x9 jbU cyI f7 jcJ cyI f8)) hP hD hS hA [0, 1, 2] (by decide +kernel) rfl
  refine va_callv (va_runV (As := [.int 1, .int 1]) (rest := []) ⟨hx, hb, hml, hown, hts⟩ (qrx l dC dI cyB cyI cyJ cyP a0 jbU jcJ H.size (jhV) (jaE) f7 f8 x9 1 1 hw) (cwV 2 hts gX4_setPlain_X4_add rfl rfl rfl (by decide +kernel) ⟨nbq rfl, nbq rfl⟩) ⟨qab, va_recv (q := (RX4, TX4, 5)) hK hPc (ci := 4) (q0 := 0) rfl rfl, qae hPc hK hDc hNw⟩ rfl rfl hl.1 rfl (lv_room (nbq rfl)) (qaa qru 2 rfl) ⟨nbq rfl, nbq rfl⟩) hS (fun q _ h => hFc q h) hFc (fun u t H1 locs ht hvm hw hB hz1 hk1 hS => ?_)
  obtain ⟨f10, f11, x12⟩ := u
  obtain ⟨hP1, hK1, hD1⟩ := hB
  rw [ht] at hP1
  obtain ⟨hP, hD⟩ := qah (wr := []) (w1 := (qoH a0 jbU jcJ jhV jaE x12 jbU cyI f10 jcJ cyI f11)) (wn := (qoH a0 jbU jcJ jhV jaE x12 jbU cyI f10 jcJ cyI f11)) hP hD [0, 1, 2] [] hCc rfl (by decide +kernel) (by decide +kernel) rfl hk1 hFc hP1 hD1
  generalize H1 = H at hP hS ⊢
  refine lv_aload_n hx hb (qaa qru 3 rfl) rfl (lv_at hl 0 rfl) ?_
  refine lv_iconst (v := 3) hx hb (qaa qru 4 rfl) (by decide) ?_
  refine lv_iconst (v := 0) hx hb (qaa qru 5 rfl) (by decide) ?_
  obtain ⟨hCc, hPc, hDc, hFc⟩ := qac (ws' := (qoH a0 jbU jcJ jhV jaE x12 jbU cyI f10 jcJ cyI f11)) hP hD hS hA [0, 1, 2] (by decide +kernel) rfl
  refine va_callv (va_runV (As := [.int 3, .int 0]) (rest := []) ⟨hx, hb, hml, hown, hts⟩ (qrx l dC dI cyB cyI cyJ cyP a0 jbU jcJ H.size (jhV) (jaE) f10 f11 x12 3 0 hw) (cwV 2 hts gX4_setPlain_X4_add rfl rfl rfl (by decide +kernel) ⟨nbq rfl, nbq rfl⟩) ⟨qab, va_recv (q := (RX4, TX4, 5)) hK hPc (ci := 4) (q0 := 0) rfl rfl, qae hPc hK hDc hNw⟩ rfl rfl hl.1 rfl (lv_room (nbq rfl)) (qaa qru 6 rfl) ⟨nbq rfl, nbq rfl⟩) hS (fun q _ h => hFc q h) hFc (fun u t H1 locs ht hvm hw hB hz1 hk1 hS => ?_)
  obtain ⟨f13, f14, x15⟩ := u
  obtain ⟨hP1, hK1, hD1⟩ := hB
  rw [ht] at hP1
  obtain ⟨hP, hD⟩ := qah (wr := []) (w1 := (qoH a0 jbU jcJ jhV jaE x15 jbU cyI f13 jcJ cyI f14)) (wn := (qoH a0 jbU jcJ jhV jaE x15 jbU cyI f13 jcJ cyI f14)) hP hD [0, 1, 2] [] hCc rfl (by decide +kernel) (by decide +kernel) rfl hk1 hFc hP1 hD1
  generalize H1 = H at hP hS ⊢
  exact ((W.vret hx hb hr (fun t ht hW => ⟨⟨(x15, f13, f14), rfl, hw, by rw [ht]; exact hP, va_K.moved hW.alike hK, hD⟩, hS.F ht⟩) hS.2.2 (qaa qru 7 rfl)))
theorem qxO : ∀ w ∈ u_ws RX1 TX1 4, w ∈ wsX1_begin := uiM qvA qV8 (by decide +kernel)
theorem qKp : ∀ w ∈ u_ws RX2 TX2 12, w ∈ wsX1_begin := uiM qvA qLg (by decide +kernel)
theorem qaym : (.initialized "java/lang/System" : Cond) ∈ wsX1_begin := qvA 331 (by decide +kernel)
theorem qaCg : (.native arraycopyName : Cond) ∈ wsX1_begin := qvA 329 (by decide +kernel)
theorem qaBg : (.static arraycopyName : Cond) ∈ wsX1_begin := qvA 330 (by decide +kernel)
theorem qCp : (.fieldLink RX1 13 "MarchHares$Days" "row" "[I" : Cond) ∈ wsX1_begin := qvA 276 (by decide +kernel)
theorem qaDv : (.fieldLink RX1 24 "MarchHares$Days" "down" "LMarchHares$Down;" : Cond) ∈ wsX1_begin := qvA 322 (by decide +kernel)
theorem qaza : (.fieldLink RX1 28 "MarchHares$Days" "law" "LMarchHares$Law;" : Cond) ∈ wsX1_begin := qvA 323 (by decide +kernel)
theorem qayK : (.fieldLink RX1 32 "MarchHares$Down" "hares" "I" : Cond) ∈ wsX1_begin := qvA 324 (by decide +kernel)
theorem qazH : (.fieldLink RX1 36 "MarchHares$Down" "seat" "[I" : Cond) ∈ wsX1_begin := qvA 325 (by decide +kernel)
theorem qaDp : (.fieldLink RX1 39 "MarchHares$Down" "strength" "[I" : Cond) ∈ wsX1_begin := qvA 326 (by decide +kernel)
theorem qaD8 : (.fieldLink RX1 42 "MarchHares$Down" "debts" "[I" : Cond) ∈ wsX1_begin := qvA 327 (by decide +kernel)
theorem qaAm : (.methodLink RX1 45 arraycopyName : Cond) ∈ wsX1_begin := qvA 328 (by decide +kernel)
set_option maxHeartbeats 4000000 in
set_option maxRecDepth 100000 in
theorem qaHw {p : Program} {l : Launch} {e : Env} {s : State} {m : MethodId} {args : Array Value} {below : List Frame} {meth : Method} {c : Code} {A : Nat → Prop} (dC : Nat → ClassId) (dI : Nat → Nat → Nat) (cyB cyI cyJ cyP : ClassId) (a0 a1 a2 jch jmO jnd jmh : Nat) (jcD jpf jo9 jov jow jlD jlE jlF jnY jlf jlG : Value) (jnS : Int32) (jnV joi jmW : NI) (Q : NI → Prop) (C0 : cfx p s m args meth c cX1_begin none wsX1_begin RX1 4 A (dC, dI) (kT cyB cyI cyJ cyP)) : ∀ (n : Nat) (H : Heap) (locs : List Loc) (ls : Array Slot) (jdE : NI) (l3 : Int32), va_P (dC, dI) vwCl (qzQ a0 jch jcD a1 a2 jch cyI jdE a1 jov jow jlD jlE jnd jmh jmO jlF jnY jnS jlf jlG jmO cyI jnV jnd cyI joi jmh cyI jmW) H → va_D A (qzQ a0 jch jcD a1 a2 jch cyI jdE a1 jov jow jlD jlE jnd jmh jmO jlF jnY jnS jlf jlG jmO cyI jnV jnd cyI joi jmh cyI jmW) → va_S A s.heap H locs → lv_has ls 4 [(0, .ref a0), (1, .ref a1), (3, .int l3)] → qEe jnS jnV joi jmW Q n jdE l3 → W p l e (headSpec wsX1_begin ({ frames := 1, cells := 0, slots := 0, locals := 40 })).room s m args below meth c H locs 0 0 (MQ below (va_Qv (fun (u : NI) => Q u) (cB (dC, dI) (kT cyB cyI cyJ cyP) A (fun u : NI => ((qzQ a0 jch jcD a1 a2 jch cyI u a1 jov jow jlD jlE jnd jmh jmO jlF jnY jnS jlf jlG jmO cyI jnV jnd cyI joi jmh cyI jmW) : va_W))) A) args s 0 0 A) (F0 m 40 ls []) := by
  obtain ⟨hx, hb, hr, hts, hown, hlocks, hml, hA, hK, hNw⟩ := id C0
  intro n
  induction n with
  | zero => intro H locs ls jdE l3 hP hD hS hl hw; exact False.elim hw
  | succ n ih =>
    intro H locs ls jdE l3 hP hD hS hl hw
    refine lv_iload_n hx hb (qaa qjJ 9 rfl) rfl (lv_at hl 2 rfl) ?_
    refine lv_aload_n hx hb (qaa qjJ 10 rfl) rfl (lv_at hl 1 rfl) ?_
    refine va_get (D := (dC, dI)) (ci := 2) (v := .int jnS) (C := RX2) (T := TX2) (N := 12) hx hb hts qKp hown hK hP 2 rfl rfl 9 (by decide) (hts _ qayK) (fun _ h9 => h9) rfl (qaa qjJ 11 rfl) ?_
    refine lv_icmp_ge (tgt := 83) hx hb (qaa qjJ 12 rfl) (by decide) (fun c5 => ?_) (fun c5 => ?_)
    · have hw := hw.1 c5
      refine lv_aload_n hx hb (qaa qpt 3 rfl) rfl (lv_at hl 1 rfl) ?_
      refine va_get (D := (dC, dI)) (ci := 2) (v := .ref jmO) (C := RX2) (T := TX2) (N := 12) hx hb hts qKp hown hK hP 2 rfl rfl 6 (by decide) (hts _ qaD8) (fun _ h9 => h9) rfl (qaa qpt 4 rfl) ?_
      refine lv_iconst (v := 0) hx hb (qaa qpt 5 rfl) (by decide) ?_
      refine lv_aload_n hx hb (qaa qpt 6 rfl) rfl (lv_at hl 0 rfl) ?_
      refine va_get (D := (dC, dI)) (ci := 1) (v := .ref jch) (C := RX1) (T := TX1) (N := 4) hx hb hts qxO hown hK hP 0 rfl rfl 0 (by decide) (hts _ qCp) (fun _ h9 => h9) rfl (qaa qpt 7 rfl) ?_
      refine lv_bipush (v := 28) hx hb (qaa qpt 8 rfl) (by decide) ?_
      refine lv_bipush (v := 36) hx hb (qaa qpt 9 rfl) (by decide) ?_
      refine va_copyi hx hb (by rw [hml]; exact hl.1.symm) hown (hts _ qaAm) (hts _ qaCg) (hts _ qaBg) (hts _ qaym) hK hP hD hS 3 1 1 1 rfl rfl rfl rfl rfl (by decide) (by decide) (by decide) (by decide) (by decide) (fun _ _ => rfl) (nbq rfl) (nbq rfl) (qaa qpt 10 rfl) (fun H locs hP hD hS => ?_)
      obtain ⟨f6, ef6⟩ : ∃ y : NI, y = va_cpy jnV jdE (0 : Int32).toNatClampNeg (28 : Int32).toNatClampNeg (36 : Int32).toNatClampNeg := ⟨_, rfl⟩
      have hw := hw f6 ef6
      have hP : va_P (dC, dI) vwCl (qzQ a0 jch jcD a1 a2 jch cyI f6 a1 jov jow jlD jlE jnd jmh jmO jlF jnY jnS jlf jlG jmO cyI jnV jnd cyI joi jmh cyI jmW) H := by rw [ef6]; exact hP
      have hD : va_D A (qzQ a0 jch jcD a1 a2 jch cyI f6 a1 jov jow jlD jlE jnd jmh jmO jlF jnY jnS jlf jlG jmO cyI jnV jnd cyI joi jmh cyI jmW) := by rw [ef6]; exact hD
      exact ((W.vret hx hb hr (fun t ht hW => ⟨⟨(f6), rfl, hw, by rw [ht]; exact hP, va_K.moved hW.alike hK, hD⟩, hS.F ht⟩) hS.2.2 (qaa qpt 11 rfl)))
    · have hw := hw.2 c5
      refine lv_aload_n hx hb (qaa qjJ 13 rfl) rfl (lv_at hl 0 rfl) ?_
      refine va_get (D := (dC, dI)) (ci := 1) (v := .ref jch) (C := RX1) (T := TX1) (N := 4) hx hb hts qxO hown hK hP 0 rfl rfl 0 (by decide) (hts _ qCp) (fun _ h9 => h9) rfl (qaa qjJ 14 rfl) ?_
      refine lv_iconst (v := 4) hx hb (qaa qjJ 15 rfl) (by decide) ?_
      refine lv_iload_n hx hb (qaa qkq 0 rfl) rfl (lv_at hl 2 rfl) ?_
      refine lv_iadd hx hb (qaa qkq 1 rfl) ?_
      refine lv_topi (fun x7 ex7 => ?_)
      have hw := hw x7 ex7
      refine lv_aload_n hx hb (qaa qkq 2 rfl) rfl (lv_at hl 1 rfl) ?_
      refine va_get (D := (dC, dI)) (ci := 2) (v := .ref jnd) (C := RX2) (T := TX2) (N := 12) hx hb hts qKp hown hK hP 2 rfl rfl 4 (by decide) (hts _ qazH) (fun _ h9 => h9) rfl (qaa qkq 3 rfl) ?_
      refine lv_iload_n hx hb (qaa qkq 4 rfl) rfl (lv_at hl 2 rfl) ?_
      obtain ⟨hi9, hw⟩ := hw
      refine va_iald hx hb hK hP 4 1 rfl rfl hi9 (qaa qkq 5 rfl) ?_
      refine lv_topi (fun x8 ex8 => ?_)
      have hw := hw x8 ex8
      obtain ⟨hi9, hw⟩ := hw
      refine va_iast hx hb hK hP hD hS 1 1 rfl rfl hi9 (qaa qkq 6 rfl) (fun H locs hP hD hS => ?_)
      obtain ⟨f9, ef9⟩ : ∃ y : NI, y = upd jdE x7.toNatClampNeg x8 := ⟨_, rfl⟩
      have hw := hw f9 ef9
      have hP : va_P (dC, dI) vwCl (qzQ a0 jch jcD a1 a2 jch cyI f9 a1 jov jow jlD jlE jnd jmh jmO jlF jnY jnS jlf jlG jmO cyI jnV jnd cyI joi jmh cyI jmW) H := by rw [ef9]; exact hP
      have hD : va_D A (qzQ a0 jch jcD a1 a2 jch cyI f9 a1 jov jow jlD jlE jnd jmh jmO jlF jnY jnS jlf jlG jmO cyI jnV jnd cyI joi jmh cyI jmW) := by rw [ef9]; exact hD
      refine lv_aload_n hx hb (qaa qkq 7 rfl) rfl (lv_at hl 0 rfl) ?_
      refine va_get (D := (dC, dI)) (ci := 1) (v := .ref jch) (C := RX1) (T := TX1) (N := 4) hx hb hts qxO hown hK hP 0 rfl rfl 0 (by decide) (hts _ qCp) (fun _ h9 => h9) rfl (qaa qkq 8 rfl) ?_
      refine lv_bipush (v := 10) hx hb (qaa qkq 9 rfl) (by decide) ?_
      refine lv_iload_n hx hb (qaa qkq 10 rfl) rfl (lv_at hl 2 rfl) ?_
      refine lv_iadd hx hb (qaa qkq 11 rfl) ?_
      refine lv_topi (fun x10 ex10 => ?_)
      have hw := hw x10 ex10
      refine lv_aload_n hx hb (qaa qkq 12 rfl) rfl (lv_at hl 1 rfl) ?_
      refine va_get (D := (dC, dI)) (ci := 2) (v := .ref jmh) (C := RX2) (T := TX2) (N := 12) hx hb hts qKp hown hK hP 2 rfl rfl 5 (by decide) (hts _ qaDp) (fun _ h9 => h9) rfl (qaa qkq 13 rfl) ?_
      refine lv_iload_n hx hb (qaa qkq 14 rfl) rfl (lv_at hl 2 rfl) ?_
      obtain ⟨hi9, hw⟩ := hw
      refine va_iald hx hb hK hP 5 1 rfl rfl hi9 (qaa qkq 15 rfl) ?_
      refine lv_topi (fun x11 ex11 => ?_)
      have hw := hw x11 ex11
      obtain ⟨hi9, hw⟩ := hw
      refine va_iast hx hb hK hP hD hS 1 1 rfl rfl hi9 (qaa qpt 0 rfl) (fun H locs hP hD hS => ?_)
      obtain ⟨f12, ef12⟩ : ∃ y : NI, y = upd f9 x10.toNatClampNeg x11 := ⟨_, rfl⟩
      have hw := hw f12 ef12
      have hP : va_P (dC, dI) vwCl (qzQ a0 jch jcD a1 a2 jch cyI f12 a1 jov jow jlD jlE jnd jmh jmO jlF jnY jnS jlf jlG jmO cyI jnV jnd cyI joi jmh cyI jmW) H := by rw [ef12]; exact hP
      have hD : va_D A (qzQ a0 jch jcD a1 a2 jch cyI f12 a1 jov jow jlD jlE jnd jmh jmO jlF jnY jnS jlf jlG jmO cyI jnV jnd cyI joi jmh cyI jmW) := by rw [ef12]; exact hD
      obtain ⟨x13, ex13⟩ : ∃ y : Int32, y = l3 + 1 := ⟨_, rfl⟩
      have hw := hw x13 ex13
      refine lv_iinc (v := x13) (lv' := [(3, .int x13), (0, .ref a0), (1, .ref a1)]) hx hb (qaa qpt 1 rfl) hl (k := 2) rfl (by rw [ex13]; rfl) (by decide) rfl (fun ls hl => ?_)
      refine lv_goto (tgt := 40) hx hb (qaa qpt 2 rfl) (by decide) ?_
      exact ih _ _ _ f12 x13 hP hD hS (lv_sub hl [1, 2, 0] rfl) hw
set_option maxHeartbeats 4000000 in
set_option maxRecDepth 100000 in
theorem qaID {p : Program} {l : Launch} {e : Env} {s : State} {m : MethodId} {args : Array Value} {below : List Frame} {meth : Method} {c : Code} {A : Nat → Prop} (dC : Nat → ClassId) (dI : Nat → Nat → Nat) (cyB cyI cyJ cyP : ClassId) (a0 a1 a2 jch jmO jnd jmh : Nat) (jcD jpf jo9 jov jow jlD jlE jlF jnY jlf jlG : Value) (jnS : Int32) (jnV joi jmW : NI) (Q : NI → Prop) (C0 : cfx p s m args meth c cX1_begin none wsX1_begin RX1 4 A (dC, dI) (kT cyB cyI cyJ cyP)) : ∀ (n : Nat) (H : Heap) (locs : List Loc) (ls : Array Slot) (jdE : NI) (l3 : Int32), va_P (dC, dI) vwCl (qzQ a0 jch jcD a1 a2 jch cyI jdE a1 jov jow jlD jlE jnd jmh jmO jlF jnY jnS jlf jlG jmO cyI jnV jnd cyI joi jmh cyI jmW) H → va_D A (qzQ a0 jch jcD a1 a2 jch cyI jdE a1 jov jow jlD jlE jnd jmh jmO jlF jnY jnS jlf jlG jmO cyI jnV jnd cyI joi jmh cyI jmW) → va_S A s.heap H locs → lv_has ls 4 [(0, .ref a0), (1, .ref a1), (3, .int l3)] → qD6 jnS jnV joi jmW Q n jdE l3 → W p l e (headSpec wsX1_begin ({ frames := 1, cells := 0, slots := 0, locals := 40 })).room s m args below meth c H locs 0 0 (MQ below (va_Qv (fun (u : NI) => Q u) (cB (dC, dI) (kT cyB cyI cyJ cyP) A (fun u : NI => ((qzQ a0 jch jcD a1 a2 jch cyI u a1 jov jow jlD jlE jnd jmh jmO jlF jnY jnS jlf jlG jmO cyI jnV jnd cyI joi jmh cyI jmW) : va_W))) A) args s 0 0 A) (F0 m 12 ls []) := by
  obtain ⟨hx, hb, hr, hts, hown, hlocks, hml, hA, hK, hNw⟩ := id C0
  intro n
  induction n with
  | zero => intro H locs ls jdE l3 hP hD hS hl hw; exact False.elim hw
  | succ n ih =>
    intro H locs ls jdE l3 hP hD hS hl hw
    refine lv_iload_n hx hb (qaa qms 8 rfl) rfl (lv_at hl 2 rfl) ?_
    refine lv_bipush (v := 64) hx hb (qaa qms 9 rfl) (by decide) ?_
    refine lv_icmp_ge (tgt := 31) hx hb (qaa qms 10 rfl) (by decide) (fun c1 => ?_) (fun c1 => ?_)
    · have hw := hw.1 c1
      refine lv_aload_n hx hb (qaa qjJ 2 rfl) rfl (lv_at hl 0 rfl) ?_
      refine va_get (D := (dC, dI)) (ci := 1) (v := .ref jch) (C := RX1) (T := TX1) (N := 4) hx hb hts qxO hown hK hP 0 rfl rfl 0 (by decide) (hts _ qCp) (fun _ h9 => h9) rfl (qaa qjJ 3 rfl) ?_
      refine lv_iconst (v := 0) hx hb (qaa qjJ 4 rfl) (by decide) ?_
      refine lv_iconst (v := 1) hx hb (qaa qjJ 5 rfl) (by decide) ?_
      refine va_iast hx hb hK hP hD hS 1 1 rfl rfl (vin (by decide)) (qaa qjJ 6 rfl) (fun H locs hP hD hS => ?_)
      obtain ⟨f2, ef2⟩ : ∃ y : NI, y = upd jdE (0 : Int32).toNatClampNeg 1 := ⟨_, rfl⟩
      have hw := hw f2 ef2
      have hP : va_P (dC, dI) vwCl (qzQ a0 jch jcD a1 a2 jch cyI f2 a1 jov jow jlD jlE jnd jmh jmO jlF jnY jnS jlf jlG jmO cyI jnV jnd cyI joi jmh cyI jmW) H := by rw [ef2]; exact hP
      have hD : va_D A (qzQ a0 jch jcD a1 a2 jch cyI f2 a1 jov jow jlD jlE jnd jmh jmO jlF jnY jnS jlf jlG jmO cyI jnV jnd cyI joi jmh cyI jmW) := by rw [ef2]; exact hD
      refine lv_iconst (v := 0) hx hb (qaa qjJ 7 rfl) (by decide) ?_
      refine lv_istore_n (lv' := [(3, .int 0), (0, .ref a0), (1, .ref a1)]) hx hb (qaa qjJ 8 rfl) rfl hl (by decide) rfl (fun ls hl => ?_)
      obtain ⟨n9, hw⟩ := hw
      exact qaHw dC dI cyB cyI cyJ cyP a0 a1 a2 jch jmO jnd jmh jcD jpf jo9 jov jow jlD jlE jlF jnY jlf jlG jnS jnV joi jmW Q C0 n9 _ _ _ f2 0 hP hD hS (lv_sub hl [1, 2, 0] rfl) hw
    · have hw := hw.2 c1
      refine lv_aload_n hx hb (qaa qms 11 rfl) rfl (lv_at hl 0 rfl) ?_
      refine va_get (D := (dC, dI)) (ci := 1) (v := .ref jch) (C := RX1) (T := TX1) (N := 4) hx hb hts qxO hown hK hP 0 rfl rfl 0 (by decide) (hts _ qCp) (fun _ h9 => h9) rfl (qaa qms 12 rfl) ?_
      refine lv_iload_n hx hb (qaa qms 13 rfl) rfl (lv_at hl 2 rfl) ?_
      refine lv_iconst (v := 0) hx hb (qaa qms 14 rfl) (by decide) ?_
      obtain ⟨hi9, hw⟩ := hw
      refine va_iast hx hb hK hP hD hS 1 1 rfl rfl hi9 (qaa qms 15 rfl) (fun H locs hP hD hS => ?_)
      obtain ⟨f3, ef3⟩ : ∃ y : NI, y = upd jdE l3.toNatClampNeg 0 := ⟨_, rfl⟩
      have hw := hw f3 ef3
      have hP : va_P (dC, dI) vwCl (qzQ a0 jch jcD a1 a2 jch cyI f3 a1 jov jow jlD jlE jnd jmh jmO jlF jnY jnS jlf jlG jmO cyI jnV jnd cyI joi jmh cyI jmW) H := by rw [ef3]; exact hP
      have hD : va_D A (qzQ a0 jch jcD a1 a2 jch cyI f3 a1 jov jow jlD jlE jnd jmh jmO jlF jnY jnS jlf jlG jmO cyI jnV jnd cyI joi jmh cyI jmW) := by rw [ef3]; exact hD
      obtain ⟨x4, ex4⟩ : ∃ y : Int32, y = l3 + 1 := ⟨_, rfl⟩
      have hw := hw x4 ex4
      refine lv_iinc (v := x4) (lv' := [(3, .int x4), (0, .ref a0), (1, .ref a1)]) hx hb (qaa qjJ 0 rfl) hl (k := 2) rfl (by rw [ex4]; rfl) (by decide) rfl (fun ls hl => ?_)
      refine lv_goto (tgt := 12) hx hb (qaa qjJ 1 rfl) (by decide) ?_
      exact ih _ _ _ f3 x4 hP hD hS (lv_sub hl [1, 2, 0] rfl) hw
set_option maxHeartbeats 4000000 in
set_option maxRecDepth 100000 in
theorem qaC2 (l : Launch) (dC : Nat → ClassId) (dI : Nat → Nat → Nat) (cyB cyI cyJ cyP : ClassId) (a0 a1 a2 jch jmO jnd jmh sz : Nat) (jcD jpf jo9 jov jow jlD jlE jlF jnY jlf jlG : Value) (jnS : Int32) (jnV joi jmW jdE : NI) {Q : NI → Prop} (hw : qFX jnS jnV joi jmW jdE Q) : Met l yX1_begin wsX1_begin ({ frames := 1, cells := 0, slots := 0, locals := 40 }) (va_Pc [.ref a0, .ref a1, .ref a2] (cPc (dC, dI) (kT cyB cyI cyJ cyP) (qajK a0 jch jcD jpf jo9 jch cyI jdE a1 jov jow jlD jlE jnd jmh jmO jlF jnY jnS jlf jlG jmO cyI jnV jnd cyI joi jmh cyI jmW) sz)) (va_Qv (fun (u : NI) => Q u) (cB (dC, dI) (kT cyB cyI cyJ cyP) (va_A (qajK a0 jch jcD jpf jo9 jch cyI jdE a1 jov jow jlD jlE jnd jmh jmO jlF jnY jnS jlf jlG jmO cyI jnV jnd cyI joi jmh cyI jmW) sz) (fun u : NI => ((qzQ a0 jch jcD a1 a2 jch cyI u a1 jov jow jlD jlE jnd jmh jmO jlF jnY jnS jlf jlG jmO cyI jnV jnd cyI joi jmh cyI jmW) : va_W))) (va_A (qajK a0 jch jcD jpf jo9 jch cyI jdE a1 jov jow jlD jlE jnd jmh jmO jlF jnY jnS jlf jlG jmO cyI jnV jnd cyI joi jmh cyI jmW) sz)) 0 0 (va_A (qajK a0 jch jcD jpf jo9 jch cyI jdE a1 jov jow jlD jlE jnd jmh jmO jlF jnY jnS jlf jlG jmO cyI jnV jnd cyI joi jmh cyI jmW) sz) := by
  refine Met.ofW (cc := cX1_begin) (maxL := 4) (ret := none) (by decide) rfl ?_
  intro p e s m args below meth c s₁ B hml hv
  obtain ⟨rfl, hsz, hP, hK, hD0, hNw⟩ := hv
  have hx := B.exec
  have hb := B.bytes
  have hr := B.returns
  have hts := atoms_spec (ws := wsX1_begin) B.pre
  have hown : s.vm.findClass RX1 = some m.cls := findClass_of_methodNamed B.named
  have hlocks := B.notSynchronized
  subst hsz
  have hD := hD0.self (sz := s.heap.size)
  generalize hAe : va_A (qajK a0 jch jcD jpf jo9 jch cyI jdE a1 jov jow jlD jlE jnd jmh jmO jlF jnY jnS jlf jlG jmO cyI jnV jnd cyI joi jmh cyI jmW) s.heap.size = A at hD ⊢
  have hA : ∀ q : Nat, s.heap.size ≤ q → A q := fun q h => by rw [← hAe]; exact Or.inr h
  have hS : va_S A s.heap s.heap [] := va_S.rf
  have hP : va_P (dC, dI) vwCl (qajK a0 jch jcD jpf jo9 jch cyI jdE a1 jov jow jlD jlE jnd jmh jmO jlF jnY jnS jlf jlG jmO cyI jnV jnd cyI joi jmh cyI jmW) s.heap := hP
  have hl := lv_entry ([.ref a0, .ref a1, .ref a2]) (n := 4) (nbq rfl)
  rw [lg_entry_eq]
  generalize (lg_sl ([.ref a0, .ref a1, .ref a2]) ++ List.replicate (4 - (lg_sl ([.ref a0, .ref a1, .ref a2])).length) Slot.unset).toArray = ls at hl ⊢
  have hl : lv_has ls 4 [(0, .ref a0), (1, .ref a1), (2, .ref a2)] := hl
  have C0 : cfx p s m _ meth c cX1_begin none wsX1_begin RX1 4 A (dC, dI) (kT cyB cyI cyJ cyP) := ⟨hx, hb, hr, hts, hown, hlocks, hml, hA, hK, hNw⟩
  clear hAe
  obtain ⟨H, hH⟩ : ∃ H, H = s.heap := ⟨_, rfl⟩
  rw [← hH] at hP ⊢
  have hS : va_S A s.heap H [] := by rw [hH]; exact va_S.rf
  have hS := hS
  refine lv_aload_n hx hb (qaa qms 0 rfl) rfl (lv_at hl 0 rfl) ?_
  refine lv_aload_n hx hb (qaa qms 1 rfl) rfl (lv_at hl 1 rfl) ?_
  refine va_put (D := (dC, dI)) (ci := 1) (v := .ref a1) (ty := .object "MarchHares$Down") (C := RX1) (T := TX1) (N := 4) hx hb hts qxO tyX1 tyX1_ok nmX1 hown hK hP hD hS 0 rfl rfl 2 (by decide) (hts _ qaDv) (fun _ h9 => h9) rfl (by decide +kernel) rfl rfl (nbq rfl) (qaa qms 2 rfl) (fun H locs hP hD hS => ?_)
  have hP : va_P (dC, dI) vwCl (qa44 a0 jch jcD a1 jo9 jch cyI jdE a1 jov jow jlD jlE jnd jmh jmO jlF jnY jnS jlf jlG jmO cyI jnV jnd cyI joi jmh cyI jmW) H := hP
  have hD : va_D A (qa44 a0 jch jcD a1 jo9 jch cyI jdE a1 jov jow jlD jlE jnd jmh jmO jlF jnY jnS jlf jlG jmO cyI jnV jnd cyI joi jmh cyI jmW) := hD
  refine lv_aload_n hx hb (qaa qms 3 rfl) rfl (lv_at hl 0 rfl) ?_
  refine lv_aload_n hx hb (qaa qms 4 rfl) rfl (lv_at hl 2 rfl) ?_
  refine va_put (D := (dC, dI)) (ci := 1) (v := .ref a2) (ty := .object "MarchHares$Law") (C := RX1) (T := TX1) (N := 4) hx hb hts qxO tyX1 tyX1_ok nmX1 hown hK hP hD hS 0 rfl rfl 3 (by decide) (hts _ qaza) (fun _ h9 => h9) rfl (by decide +kernel) rfl rfl (nbq rfl) (qaa qms 5 rfl) (fun H locs hP hD hS => ?_)
  have hP : va_P (dC, dI) vwCl (qzQ a0 jch jcD a1 a2 jch cyI jdE a1 jov jow jlD jlE jnd jmh jmO jlF jnY jnS jlf jlG jmO cyI jnV jnd cyI joi jmh cyI jmW) H := hP
  have hD : va_D A (qzQ a0 jch jcD a1 a2 jch cyI jdE a1 jov jow jlD jlE jnd jmh jmO jlF jnY jnS jlf jlG jmO cyI jnV jnd cyI joi jmh cyI jmW) := hD
  refine lv_iconst (v := 0) hx hb (qaa qms 6 rfl) (by decide) ?_
  refine lv_istore_n (lv' := [(3, .int 0), (0, .ref a0), (1, .ref a1), (2, .ref a2)]) hx hb (qaa qms 7 rfl) rfl hl (by decide) rfl (fun ls hl => ?_)
  obtain ⟨n9, hw⟩ := hw
  exact qaID dC dI cyB cyI cyJ cyP a0 a1 a2 jch jmO jnd jmh jcD jpf jo9 jov jow jlD jlE jlF jnY jlf jlG jnS jnV joi jmW Q C0 n9 _ _ _ jdE 0 hP hD hS (lv_sub hl [1, 2, 0] rfl) hw
