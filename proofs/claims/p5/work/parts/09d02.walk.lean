/-- worlds by their leaves -/
def qJe (x0 : Nat) (x1 : Value) (x2 : Nat) (x3 x4 x5 x6 x7 x8 x9 x10 x11 x12 x13 x14 x15 x16 x17 : Value) (x18 : Int32) (x19 : Value) (x20 x21 x22 : Nat) (x23 x24 x25 x26 x27 x28 : Value) (x29 : Int32) (x30 x31 x32 : Value) (x33 : Nat) (x34 : ClassId) (x35 : NI) (x36 : Nat) (x37 : ClassId) (x38 : NI) : va_W := [(x0, .inr (10, [x1, .ref x2, x3, x4, x5, x6, x7, x8, x9, x10, x11, x12, x13, x14, x15, x16, x17, .int x18, x19])), (x20, .inr (2, [.ref x21, .ref x22, x23, x24, x25, x26, x27, x28, .int x29, x30, x31, x32])), (x33, .inl (x34, 8, .inl x35)), (x36, .inl (x37, 8, .inl x38))]
def qaMi (x0 : Nat) (x1 : Value) (x2 : Nat) (x3 x4 x5 x6 x7 x8 x9 x10 x11 x12 x13 x14 x15 x16 x17 : Value) (x18 : Int32) (x19 : Value) (x20 x21 x22 : Nat) (x23 x24 x25 x26 x27 x28 : Value) (x29 : Int32) (x30 x31 x32 : Value) : va_W := [(x0, .inr (10, [x1, .ref x2, x3, x4, x5, x6, x7, x8, x9, x10, x11, x12, x13, x14, x15, x16, x17, .int x18, x19])), (x20, .inr (2, [.ref x21, .ref x22, x23, x24, x25, x26, x27, x28, .int x29, x30, x31, x32]))]
def qa1m (x0 : Nat) (x1 : ClassId) (x2 : NI) (x3 : Nat) (x4 : ClassId) (x5 : NI) : va_W := [(x0, .inl (x1, 8, .inl x2)), (x3, .inl (x4, 8, .inl x5))]
def qnw (x0 x1 x2 : Nat) (x3 x4 x5 x6 x7 x8 : Value) (x9 : Int32) (x10 x11 x12 : Value) (x13 : Nat) (x14 : ClassId) (x15 : NI) (x16 : Nat) (x17 : ClassId) (x18 : NI) : va_W := [(x0, .inr (2, [.ref x1, .ref x2, x3, x4, x5, x6, x7, x8, .int x9, x10, x11, x12])), (x13, .inl (x14, 8, .inl x15)), (x16, .inl (x17, 8, .inl x18))]
def qZF (x0 : Nat) (x1 : Value) (x2 : Nat) (x3 x4 x5 x6 x7 x8 x9 x10 x11 x12 x13 x14 x15 x16 x17 : Value) (x18 : Int32) (x19 : Value) (x20 x21 x22 : Nat) (x23 x24 x25 x26 x27 x28 : Value) (x29 : Int32) (x30 x31 x32 : Value) (x33 : Nat) (x34 : ClassId) (x35 : NI) (x36 : Nat) (x37 : ClassId) (x38 : NI) (x39 : Nat) (x40 : ClassId) (x41 : Nat) (x42 : Nat → Int64) : va_W := [(x0, .inr (10, [x1, .ref x2, x3, x4, x5, x6, x7, x8, x9, x10, x11, x12, x13, x14, x15, x16, x17, .int x18, x19])), (x20, .inr (2, [.ref x21, .ref x22, x23, x24, x25, x26, x27, x28, .int x29, x30, x31, x32])), (x33, .inl (x34, 8, .inl x35)), (x36, .inl (x37, 8, .inl x38)), (x39, .inl (x40, x41, .inr (.inl x42)))]
def qnf (x0 : Nat) (x1 x2 x3 x4 x5 x6 x7 x8 x9 x10 x11 x12 x13 x14 x15 x16 x17 x18 : Value) (x19 : Int32) : va_W := [(x0, .inr (10, [x1, x2, x3, x4, x5, x6, x7, x8, x9, x10, x11, x12, x13, x14, x15, x16, x17, x18, .int x19]))]
def qYW (x0 : Nat) (x1 x2 x3 x4 x5 x6 x7 x8 x9 x10 x11 x12 x13 x14 x15 x16 x17 x18 : Value) (x19 : Int32) (x20 : Nat) (x21 : ClassId) (x22 : Nat) (x23 : Nat → Int64) : va_W := [(x0, .inr (10, [x1, x2, x3, x4, x5, x6, x7, x8, x9, x10, x11, x12, x13, x14, x15, x16, x17, x18, .int x19])), (x20, .inl (x21, x22, .inr (.inl x23)))]
def q7O (x0 x1 x2 : Nat) (x3 x4 x5 x6 x7 x8 x9 x10 x11 : Value) (x12 : Nat) (x13 : ClassId) (x14 : NI) (x15 : Nat) (x16 : ClassId) (x17 : NI) : va_W := [(x0, .inr (3, [.ref x1, .ref x2, x3, x4, x5, x6, x7, x8, x9, x10, x11])), (x12, .inl (x13, 8, .inl x14)), (x15, .inl (x16, 6, .inl x17))]
def qV8 (x0 x1 : Nat) (x2 : Value) (x3 : Nat) (x4 : ClassId) (x5 : NI) : va_W := [(x0, .inr (0, [.ref x1, x2])), (x3, .inl (x4, 8, .inl x5))]
def qZL (x0 x1 x2 : Nat) (x3 x4 x5 : Value) (x6 : Int32) (x7 : Nat) (x8 x9 x10 x11 : Value) (x12 : Nat) (x13 : ClassId) (x14 : NI) (x15 : Nat) (x16 : ClassId) (x17 : NI) (x18 x19 : Nat) (x20 : Value) (x21 : Nat) (x22 : ClassId) (x23 : NI) : va_W := [(x0, .inr (3, [.ref x1, .ref x2, x3, x4, x5, .int x6, .ref x7, x8, x9, x10, x11])), (x12, .inl (x13, 8, .inl x14)), (x15, .inl (x16, 6, .inl x17)), (x18, .inr (0, [.ref x19, x20])), (x21, .inl (x22, 8, .inl x23))]
def qaZT (x0 x1 x2 : Nat) (x3 x4 x5 : Value) (x6 : Int32) (x7 : Nat) (x8 x9 x10 x11 : Value) (x12 : Nat) (x13 : ClassId) (x14 : NI) (x15 : Nat) (x16 : ClassId) (x17 : NI) : va_W := [(x0, .inr (3, [.ref x1, .ref x2, x3, x4, x5, .int x6, .ref x7, x8, x9, x10, x11])), (x12, .inl (x13, 8, .inl x14)), (x15, .inl (x16, 6, .inl x17))]
def qsb (x0 x1 x2 : Nat) (x3 x4 x5 : Value) (x6 : Int32) (x7 : Nat) (x8 x9 : Int32) (x10 x11 : Value) (x12 : Nat) (x13 : ClassId) (x14 : NI) (x15 : Nat) (x16 : ClassId) (x17 : NI) (x18 x19 : Nat) (x20 : Value) (x21 : Nat) (x22 : ClassId) (x23 : NI) : va_W := [(x0, .inr (3, [.ref x1, .ref x2, x3, x4, x5, .int x6, .ref x7, .int x8, .int x9, x10, x11])), (x12, .inl (x13, 8, .inl x14)), (x15, .inl (x16, 6, .inl x17)), (x18, .inr (0, [.ref x19, x20])), (x21, .inl (x22, 8, .inl x23))]
def qqq (x0 x1 x2 x3 : Nat) (x4 : Value) (x5 x6 : Int32) (x7 : Nat) (x8 x9 : Int32) (x10 x11 : Value) (x12 x13 : Nat) (x14 : Value) (x15 : Nat) (x16 : Value) (x17 : Nat) (x18 x19 x20 x21 x22 x23 x24 x25 : Value) (x26 x27 : Int32) (x28 x29 : Value) (x30 : Nat) (x31 : ClassId) (x32 : NI) (x33 : Nat) (x34 : ClassId) (x35 : NI) (x36 : Nat) (x37 : ClassId) (x38 : NI) (x39 x40 : Nat) (x41 : Value) (x42 : Nat) (x43 : ClassId) (x44 : NI) (x45 : Nat) (x46 : ClassId) (x47 : NI) : va_W := [(x0, .inr (3, [.ref x1, .ref x2, .ref x3, x4, .int x5, .int x6, .ref x7, .int x8, .int x9, x10, x11])), (x12, .inr (1, [.ref x13, x14, .ref x15, x16])), (x17, .inr (2, [x18, x19, x20, x21, x22, x23, x24, x25, .int x26, .int x27, x28, x29])), (x30, .inl (x31, 64, .inl x32)), (x33, .inl (x34, 8, .inl x35)), (x36, .inl (x37, 6, .inl x38)), (x39, .inr (0, [.ref x40, x41])), (x42, .inl (x43, 8, .inl x44)), (x45, .inl (x46, 6, .inl x47))]
def qaOa (x0 x1 : Nat) (x2 : Value) (x3 : Nat) (x4 : Value) (x5 : Nat) (x6 : ClassId) (x7 : NI) : va_W := [(x0, .inr (1, [.ref x1, x2, .ref x3, x4])), (x5, .inl (x6, 64, .inl x7))]
def qa6G (x0 x1 x2 x3 : Nat) (x4 : Value) (x5 x6 : Int32) (x7 : Nat) (x8 x9 : Int32) (x10 x11 : Value) (x12 : Nat) (x13 x14 x15 x16 x17 x18 x19 x20 : Value) (x21 x22 : Int32) (x23 x24 : Value) (x25 : Nat) (x26 : ClassId) (x27 : NI) (x28 : Nat) (x29 : ClassId) (x30 : NI) (x31 x32 : Nat) (x33 : Value) (x34 : Nat) (x35 : ClassId) (x36 : NI) (x37 : Nat) (x38 : ClassId) (x39 : NI) : va_W := [(x0, .inr (3, [.ref x1, .ref x2, .ref x3, x4, .int x5, .int x6, .ref x7, .int x8, .int x9, x10, x11])), (x12, .inr (2, [x13, x14, x15, x16, x17, x18, x19, x20, .int x21, .int x22, x23, x24])), (x25, .inl (x26, 8, .inl x27)), (x28, .inl (x29, 6, .inl x30)), (x31, .inr (0, [.ref x32, x33])), (x34, .inl (x35, 8, .inl x36)), (x37, .inl (x38, 6, .inl x39))]
def qa9C (x0 x1 x2 x3 : Nat) (x4 : Value) (x5 x6 : Int32) (x7 : Nat) (x8 x9 : Int32) (x10 x11 : Value) (x12 : Nat) (x13 : ClassId) (x14 : NI) (x15 : Nat) (x16 : ClassId) (x17 : NI) (x18 x19 : Nat) (x20 : Value) (x21 : Nat) (x22 : ClassId) (x23 : NI) : va_W := [(x0, .inr (3, [.ref x1, .ref x2, .ref x3, x4, .int x5, .int x6, .ref x7, .int x8, .int x9, x10, x11])), (x12, .inl (x13, 8, .inl x14)), (x15, .inl (x16, 6, .inl x17)), (x18, .inr (0, [.ref x19, x20])), (x21, .inl (x22, 8, .inl x23))]
def qa5E (x0 x1 : Nat) (x2 : Value) (x3 : Nat) (x4 : Value) (x5 : Nat) (x6 x7 x8 x9 x10 x11 x12 x13 : Value) (x14 x15 : Int32) (x16 x17 : Value) (x18 : Nat) (x19 : ClassId) (x20 : NI) : va_W := [(x0, .inr (1, [.ref x1, x2, .ref x3, x4])), (x5, .inr (2, [x6, x7, x8, x9, x10, x11, x12, x13, .int x14, .int x15, x16, x17])), (x18, .inl (x19, 64, .inl x20))]
def qJD (x0 x1 x2 x3 : Nat) (x4 : Value) (x5 x6 : Int32) (x7 : Value) (x8 x9 : Int32) (x10 x11 : Value) (x12 x13 : Nat) (x14 : Value) (x15 : Nat) (x16 : Value) (x17 : Nat) (x18 x19 x20 x21 x22 x23 x24 x25 : Value) (x26 x27 : Int32) (x28 x29 : Value) (x30 : Nat) (x31 : ClassId) (x32 : NI) (x33 : Nat) (x34 : ClassId) (x35 : NI) (x36 : Nat) (x37 : ClassId) (x38 : NI) (x39 x40 : Nat) (x41 : Value) (x42 : Nat) (x43 : ClassId) (x44 : NI) (x45 : Nat) (x46 : ClassId) (x47 : NI) : va_W := [(x0, .inr (3, [.ref x1, .ref x2, .ref x3, x4, .int x5, .int x6, x7, .int x8, .int x9, x10, x11])), (x12, .inr (1, [.ref x13, x14, .ref x15, x16])), (x17, .inr (2, [x18, x19, x20, x21, x22, x23, x24, x25, .int x26, .int x27, x28, x29])), (x30, .inl (x31, 64, .inl x32)), (x33, .inl (x34, 8, .inl x35)), (x36, .inl (x37, 6, .inl x38)), (x39, .inr (0, [.ref x40, x41])), (x42, .inl (x43, 8, .inl x44)), (x45, .inl (x46, 6, .inl x47))]
def qM2 (x0 : Nat) (x1 x2 x3 x4 x5 : Value) (x6 : Nat) (x7 x8 : Value) (x9 : Nat) (x10 x11 x12 x13 x14 : Value) (x15 : Nat) (x16 x17 x18 : Value) (x19 : Int32) (x20 x21 x22 x23 : Nat) (x24 : Value) (x25 x26 : Int32) (x27 : Value) (x28 x29 : Int32) (x30 x31 : Value) (x32 x33 : Nat) (x34 : Value) (x35 : Nat) (x36 : Value) (x37 : Nat) (x38 x39 x40 x41 x42 x43 x44 x45 : Value) (x46 x47 : Int32) (x48 x49 : Value) (x50 : Nat) (x51 : ClassId) (x52 : NI) (x53 : Nat) (x54 : ClassId) (x55 : NI) (x56 : Nat) (x57 : ClassId) (x58 : NI) (x59 x60 : Nat) (x61 : Value) (x62 : Nat) (x63 : ClassId) (x64 : NI) (x65 : Nat) (x66 : ClassId) (x67 : NI) : va_W := [(x0, .inr (10, [x1, x2, x3, x4, x5, .ref x6, x7, x8, .ref x9, x10, x11, x12, x13, x14, .ref x15, x16, x17, x18, .int x19])), (x20, .inr (3, [.ref x21, .ref x22, .ref x23, x24, .int x25, .int x26, x27, .int x28, .int x29, x30, x31])), (x32, .inr (1, [.ref x33, x34, .ref x35, x36])), (x37, .inr (2, [x38, x39, x40, x41, x42, x43, x44, x45, .int x46, .int x47, x48, x49])), (x50, .inl (x51, 64, .inl x52)), (x53, .inl (x54, 8, .inl x55)), (x56, .inl (x57, 6, .inl x58)), (x59, .inr (0, [.ref x60, x61])), (x62, .inl (x63, 8, .inl x64)), (x65, .inl (x66, 6, .inl x67))]
def qaMC (x0 : Nat) (x1 x2 x3 x4 x5 : Value) (x6 : Nat) (x7 x8 : Value) (x9 : Nat) (x10 x11 x12 x13 x14 : Value) (x15 : Nat) (x16 x17 x18 : Value) (x19 : Int32) : va_W := [(x0, .inr (10, [x1, x2, x3, x4, x5, .ref x6, x7, x8, .ref x9, x10, x11, x12, x13, x14, .ref x15, x16, x17, x18, .int x19]))]
def qbeK (x0 : Nat) (x1 x2 x3 x4 x5 : Value) (x6 : Nat) (x7 x8 : Value) (x9 : Nat) (x10 x11 x12 x13 x14 : Value) (x15 : Nat) (x16 x17 x18 : Value) (x19 : Int32) (x20 x21 x22 x23 : Nat) (x24 : Value) (x25 x26 : Int32) (x27 : Nat) (x28 x29 : Int32) (x30 x31 : Value) (x32 x33 : Nat) (x34 : Value) (x35 : Nat) (x36 : Value) (x37 : Nat) (x38 x39 x40 x41 x42 x43 x44 x45 : Value) (x46 x47 : Int32) (x48 x49 : Value) (x50 : Nat) (x51 : ClassId) (x52 : NI) (x53 : Nat) (x54 : ClassId) (x55 : NI) (x56 : Nat) (x57 : ClassId) (x58 : NI) (x59 x60 : Nat) (x61 : Value) (x62 : Nat) (x63 : ClassId) (x64 : NI) (x65 : Nat) (x66 : ClassId) (x67 : NI) : va_W := [(x0, .inr (10, [x1, x2, x3, x4, x5, .ref x6, x7, x8, .ref x9, x10, x11, x12, x13, x14, .ref x15, x16, x17, x18, .int x19])), (x20, .inr (3, [.ref x21, .ref x22, .ref x23, x24, .int x25, .int x26, .ref x27, .int x28, .int x29, x30, x31])), (x32, .inr (1, [.ref x33, x34, .ref x35, x36])), (x37, .inr (2, [x38, x39, x40, x41, x42, x43, x44, x45, .int x46, .int x47, x48, x49])), (x50, .inl (x51, 64, .inl x52)), (x53, .inl (x54, 8, .inl x55)), (x56, .inl (x57, 6, .inl x58)), (x59, .inr (0, [.ref x60, x61])), (x62, .inl (x63, 8, .inl x64)), (x65, .inl (x66, 6, .inl x67))]
def qM6 (x0 : Nat) (x1 : Value) (x2 : Nat) (x3 x4 x5 : Value) (x6 : Nat) (x7 x8 : Value) (x9 : Nat) (x10 x11 x12 x13 x14 : Value) (x15 : Nat) (x16 x17 x18 : Value) (x19 : Int32) (x20 x21 x22 x23 : Nat) (x24 : Value) (x25 x26 : Int32) (x27 : Value) (x28 x29 : Int32) (x30 x31 : Value) (x32 x33 : Nat) (x34 : Value) (x35 : Nat) (x36 : Value) (x37 : Nat) (x38 x39 x40 x41 x42 x43 x44 x45 : Value) (x46 x47 : Int32) (x48 x49 : Value) (x50 : Nat) (x51 : ClassId) (x52 : NI) (x53 : Nat) (x54 : ClassId) (x55 : NI) (x56 : Nat) (x57 : ClassId) (x58 : NI) (x59 x60 : Nat) (x61 : Value) (x62 : Nat) (x63 : ClassId) (x64 : NI) (x65 : Nat) (x66 : ClassId) (x67 : NI) (x68 : Nat) (x69 : ClassId) (x70 : Nat) (x71 : Nat → Int64) : va_W := [(x0, .inr (10, [x1, .ref x2, x3, x4, x5, .ref x6, x7, x8, .ref x9, x10, x11, x12, x13, x14, .ref x15, x16, x17, x18, .int x19])), (x20, .inr (3, [.ref x21, .ref x22, .ref x23, x24, .int x25, .int x26, x27, .int x28, .int x29, x30, x31])), (x32, .inr (1, [.ref x33, x34, .ref x35, x36])), (x37, .inr (2, [x38, x39, x40, x41, x42, x43, x44, x45, .int x46, .int x47, x48, x49])), (x50, .inl (x51, 64, .inl x52)), (x53, .inl (x54, 8, .inl x55)), (x56, .inl (x57, 6, .inl x58)), (x59, .inr (0, [.ref x60, x61])), (x62, .inl (x63, 8, .inl x64)), (x65, .inl (x66, 6, .inl x67)), (x68, .inl (x69, x70, .inr (.inl x71)))]
def qaYJ (x0 : Nat) (x1 : Value) (x2 : Nat) (x3 x4 x5 : Value) (x6 : Nat) (x7 x8 : Value) (x9 : Nat) (x10 x11 x12 x13 x14 : Value) (x15 : Nat) (x16 x17 x18 : Value) (x19 : Int32) (x20 x21 x22 x23 : Nat) (x24 : Value) (x25 x26 : Int32) (x27 : Value) (x28 x29 : Int32) (x30 x31 : Value) (x32 x33 : Nat) (x34 : Value) (x35 : Nat) (x36 : Value) (x37 : Nat) (x38 x39 x40 x41 x42 x43 x44 x45 : Value) (x46 x47 : Int32) (x48 x49 : Value) (x50 : Nat) (x51 : ClassId) (x52 : NI) (x53 : Nat) (x54 : ClassId) (x55 : NI) (x56 : Nat) (x57 : ClassId) (x58 : NI) (x59 x60 : Nat) (x61 : Value) (x62 : Nat) (x63 : ClassId) (x64 : NI) (x65 : Nat) (x66 : ClassId) (x67 : NI) : va_W := [(x0, .inr (10, [x1, .ref x2, x3, x4, x5, .ref x6, x7, x8, .ref x9, x10, x11, x12, x13, x14, .ref x15, x16, x17, x18, .int x19])), (x20, .inr (3, [.ref x21, .ref x22, .ref x23, x24, .int x25, .int x26, x27, .int x28, .int x29, x30, x31])), (x32, .inr (1, [.ref x33, x34, .ref x35, x36])), (x37, .inr (2, [x38, x39, x40, x41, x42, x43, x44, x45, .int x46, .int x47, x48, x49])), (x50, .inl (x51, 64, .inl x52)), (x53, .inl (x54, 8, .inl x55)), (x56, .inl (x57, 6, .inl x58)), (x59, .inr (0, [.ref x60, x61])), (x62, .inl (x63, 8, .inl x64)), (x65, .inl (x66, 6, .inl x67))]
def qzf (x0 : Nat) (x1 : Value) (x2 : Nat) (x3 x4 x5 x6 x7 x8 : Value) (x9 : Nat) (x10 x11 x12 x13 x14 x15 x16 x17 : Value) (x18 x19 : Int32) (x20 x21 x22 : Nat) (x23 x24 x25 x26 x27 x28 : Value) (x29 x30 : Int32) (x31 : Value) (x32 : Int32) (x33 x34 : Nat) (x35 : Value) (x36 : Nat) (x37 : Value) (x38 : Nat) (x39 : ClassId) (x40 : NI) (x41 : Nat) (x42 : ClassId) (x43 : NI) (x44 : Nat) (x45 : ClassId) (x46 : NI) : va_W := [(x0, .inr (10, [x1, .ref x2, x3, x4, x5, x6, x7, x8, .ref x9, x10, x11, x12, x13, x14, x15, x16, x17, .int x18, .int x19])), (x20, .inr (2, [.ref x21, .ref x22, x23, x24, x25, x26, x27, x28, .int x29, .int x30, x31, .int x32])), (x33, .inr (1, [.ref x34, x35, .ref x36, x37])), (x38, .inl (x39, 64, .inl x40)), (x41, .inl (x42, 8, .inl x43)), (x44, .inl (x45, 8, .inl x46))]
def qaXq (x0 : Nat) (x1 : Value) (x2 : Nat) (x3 x4 x5 x6 x7 x8 : Value) (x9 : Nat) (x10 x11 x12 x13 x14 x15 x16 x17 : Value) (x18 x19 : Int32) (x20 x21 x22 : Nat) (x23 x24 x25 x26 x27 x28 : Value) (x29 x30 : Int32) (x31 : Value) (x32 : Int32) : va_W := [(x0, .inr (10, [x1, .ref x2, x3, x4, x5, x6, x7, x8, .ref x9, x10, x11, x12, x13, x14, x15, x16, x17, .int x18, .int x19])), (x20, .inr (2, [.ref x21, .ref x22, x23, x24, x25, x26, x27, x28, .int x29, .int x30, x31, .int x32]))]
def qa9B (x0 x1 : Nat) (x2 : Value) (x3 : Nat) (x4 : Value) (x5 : Nat) (x6 : ClassId) (x7 : NI) (x8 : Nat) (x9 : ClassId) (x10 : NI) (x11 : Nat) (x12 : ClassId) (x13 : NI) : va_W := [(x0, .inr (1, [.ref x1, x2, .ref x3, x4])), (x5, .inl (x6, 64, .inl x7)), (x8, .inl (x9, 8, .inl x10)), (x11, .inl (x12, 8, .inl x13))]
def qalG (x0 : Nat) (x1 : Value) (x2 : Nat) (x3 x4 x5 x6 x7 x8 : Value) (x9 : Nat) (x10 x11 x12 x13 x14 x15 x16 x17 : Value) (x18 x19 : Int32) : va_W := [(x0, .inr (10, [x1, .ref x2, x3, x4, x5, x6, x7, x8, .ref x9, x10, x11, x12, x13, x14, x15, x16, x17, .int x18, .int x19]))]
def qa4f (x0 x1 x2 : Nat) (x3 x4 x5 x6 x7 x8 : Value) (x9 x10 : Int32) (x11 : Value) (x12 : Int32) (x13 x14 : Nat) (x15 : Value) (x16 : Nat) (x17 : Value) (x18 : Nat) (x19 : ClassId) (x20 : NI) (x21 : Nat) (x22 : ClassId) (x23 : NI) (x24 : Nat) (x25 : ClassId) (x26 : NI) : va_W := [(x0, .inr (2, [.ref x1, .ref x2, x3, x4, x5, x6, x7, x8, .int x9, .int x10, x11, .int x12])), (x13, .inr (1, [.ref x14, x15, .ref x16, x17])), (x18, .inl (x19, 64, .inl x20)), (x21, .inl (x22, 8, .inl x23)), (x24, .inl (x25, 8, .inl x26))]
def qa4M (x0 x1 : Nat) (x2 : Value) (x3 : Nat) (x4 : Value) (x5 x6 x7 : Nat) (x8 x9 x10 x11 x12 x13 : Value) (x14 x15 : Int32) (x16 : Value) (x17 : Int32) (x18 : Nat) (x19 : ClassId) (x20 : NI) : va_W := [(x0, .inr (1, [.ref x1, x2, .ref x3, x4])), (x5, .inr (2, [.ref x6, .ref x7, x8, x9, x10, x11, x12, x13, .int x14, .int x15, x16, .int x17])), (x18, .inl (x19, 64, .inl x20))]
def qa9w (x0 x1 x2 : Nat) (x3 x4 x5 x6 x7 x8 : Value) (x9 x10 : Int32) (x11 : Value) (x12 : Int32) : va_W := [(x0, .inr (2, [.ref x1, .ref x2, x3, x4, x5, x6, x7, x8, .int x9, .int x10, x11, .int x12]))]
def qMN (x0 : Nat) (x1 : Value) (x2 : Nat) (x3 x4 x5 x6 x7 x8 : Value) (x9 : Nat) (x10 x11 x12 x13 x14 x15 x16 x17 : Value) (x18 x19 : Int32) (x20 x21 x22 : Nat) (x23 x24 x25 x26 x27 x28 : Value) (x29 x30 : Int32) (x31 : Value) (x32 : Int32) (x33 x34 : Nat) (x35 : Value) (x36 : Nat) (x37 : Value) (x38 : Nat) (x39 : ClassId) (x40 : NI) (x41 : Nat) (x42 : ClassId) (x43 : NI) (x44 : Nat) (x45 : ClassId) (x46 : NI) (x47 : Nat) (x48 : ClassId) (x49 : Nat) (x50 : Nat → Int64) : va_W := [(x0, .inr (10, [x1, .ref x2, x3, x4, x5, x6, x7, x8, .ref x9, x10, x11, x12, x13, x14, x15, x16, x17, .int x18, .int x19])), (x20, .inr (2, [.ref x21, .ref x22, x23, x24, x25, x26, x27, x28, .int x29, .int x30, x31, .int x32])), (x33, .inr (1, [.ref x34, x35, .ref x36, x37])), (x38, .inl (x39, 64, .inl x40)), (x41, .inl (x42, 8, .inl x43)), (x44, .inl (x45, 8, .inl x46)), (x47, .inl (x48, x49, .inr (.inl x50)))]
def qzE (x0 : Nat) (x1 : Value) (x2 : Nat) (x3 x4 x5 x6 x7 x8 x9 x10 x11 x12 x13 x14 x15 x16 x17 : Value) (x18 x19 : Int32) (x20 : Nat) (x21 x22 : Value) (x23 x24 : Nat) (x25 x26 x27 x28 x29 x30 : Value) (x31 : Int32) (x32 : Value) (x33 : Nat) (x34 : ClassId) (x35 : NI) (x36 : Nat) (x37 : ClassId) (x38 : NI) : va_W := [(x0, .inr (10, [x1, .ref x2, x3, x4, x5, x6, x7, x8, x9, x10, x11, x12, x13, x14, x15, x16, x17, .int x18, .int x19])), (x20, .inr (2, [x21, x22, .ref x23, .ref x24, x25, x26, x27, x28, x29, x30, .int x31, x32])), (x33, .inl (x34, 4, .inl x35)), (x36, .inl (x37, 4, .inl x38))]
def qaXd (x0 : Nat) (x1 : Value) (x2 : Nat) (x3 x4 x5 x6 x7 x8 x9 x10 x11 x12 x13 x14 x15 x16 x17 : Value) (x18 x19 : Int32) : va_W := [(x0, .inr (10, [x1, .ref x2, x3, x4, x5, x6, x7, x8, x9, x10, x11, x12, x13, x14, x15, x16, x17, .int x18, .int x19]))]
def qa32 (x0 : Nat) (x1 x2 : Value) (x3 x4 : Nat) (x5 x6 x7 x8 x9 x10 : Value) (x11 : Int32) (x12 : Value) (x13 : Nat) (x14 : ClassId) (x15 : NI) (x16 : Nat) (x17 : ClassId) (x18 : NI) : va_W := [(x0, .inr (2, [x1, x2, .ref x3, .ref x4, x5, x6, x7, x8, x9, x10, .int x11, x12])), (x13, .inl (x14, 4, .inl x15)), (x16, .inl (x17, 4, .inl x18))]
def qL5 (x0 : Nat) (x1 : Value) (x2 : Nat) (x3 x4 x5 x6 x7 x8 x9 x10 x11 x12 x13 x14 x15 x16 x17 : Value) (x18 x19 : Int32) (x20 : Nat) (x21 x22 : Value) (x23 x24 : Nat) (x25 x26 x27 x28 x29 x30 : Value) (x31 : Int32) (x32 : Value) (x33 : Nat) (x34 : ClassId) (x35 : NI) (x36 : Nat) (x37 : ClassId) (x38 : NI) (x39 : Nat) (x40 : ClassId) (x41 : Nat) (x42 : Nat → Int64) : va_W := [(x0, .inr (10, [x1, .ref x2, x3, x4, x5, x6, x7, x8, x9, x10, x11, x12, x13, x14, x15, x16, x17, .int x18, .int x19])), (x20, .inr (2, [x21, x22, .ref x23, .ref x24, x25, x26, x27, x28, x29, x30, .int x31, x32])), (x33, .inl (x34, 4, .inl x35)), (x36, .inl (x37, 4, .inl x38)), (x39, .inl (x40, x41, .inr (.inl x42)))]
def qvY (x0 : Nat) (x1 : Value) (x2 : Nat) (x3 x4 x5 x6 x7 x8 : Value) (x9 : Nat) (x10 x11 x12 x13 x14 x15 x16 x17 : Value) (x18 x19 : Int32) (x20 : Nat) (x21 x22 x23 x24 x25 : Value) (x26 : Nat) (x27 x28 x29 : Value) (x30 : Int32) (x31 x32 : Value) (x33 x34 : Nat) (x35 : Value) (x36 x37 x38 : Nat) (x39 : ClassId) (x40 : NI) (x41 x42 x43 x44 x45 : Nat) (x46 : Int32) (x47 : Nat) (x48 : ClassId) (x49 : NI) (x50 : Nat) (x51 : ClassId) (x52 : NI) (x53 : Nat) (x54 : ClassId) (x55 : NI) (x56 : Nat) (x57 : ClassId) (x58 : NI) (x59 : Nat) (x60 : ClassId) (x61 : NI) : va_W := [(x0, .inr (10, [x1, .ref x2, x3, x4, x5, x6, x7, x8, .ref x9, x10, x11, x12, x13, x14, x15, x16, x17, .int x18, .int x19])), (x20, .inr (2, [x21, x22, x23, x24, x25, .ref x26, x27, x28, x29, .int x30, x31, x32])), (x33, .inr (1, [.ref x34, x35, .ref x36, .ref x37])), (x38, .inl (x39, 64, .inl x40)), (x41, .inr (4, [.ref x42, .ref x43, .ref x44, .ref x45, .int x46])), (x47, .inl (x48, 8, .inl x49)), (x50, .inl (x51, 150, .inl x52)), (x53, .inl (x54, 150, .inl x55)), (x56, .inl (x57, 150, .inl x58)), (x59, .inl (x60, 6, .inl x61))]
def qaZQ (x0 : Nat) (x1 : Value) (x2 : Nat) (x3 x4 x5 x6 x7 x8 : Value) (x9 : Nat) (x10 x11 x12 x13 x14 x15 x16 x17 : Value) (x18 x19 : Int32) (x20 : Nat) (x21 x22 x23 x24 x25 : Value) (x26 : Nat) (x27 x28 x29 : Value) (x30 : Int32) (x31 x32 : Value) : va_W := [(x0, .inr (10, [x1, .ref x2, x3, x4, x5, x6, x7, x8, .ref x9, x10, x11, x12, x13, x14, x15, x16, x17, .int x18, .int x19])), (x20, .inr (2, [x21, x22, x23, x24, x25, .ref x26, x27, x28, x29, .int x30, x31, x32]))]
def qa8S (x0 x1 : Nat) (x2 : Value) (x3 x4 x5 : Nat) (x6 : ClassId) (x7 : NI) (x8 x9 x10 x11 x12 : Nat) (x13 : Int32) (x14 : Nat) (x15 : ClassId) (x16 : NI) (x17 : Nat) (x18 : ClassId) (x19 : NI) (x20 : Nat) (x21 : ClassId) (x22 : NI) (x23 : Nat) (x24 : ClassId) (x25 : NI) (x26 : Nat) (x27 : ClassId) (x28 : NI) : va_W := [(x0, .inr (1, [.ref x1, x2, .ref x3, .ref x4])), (x5, .inl (x6, 64, .inl x7)), (x8, .inr (4, [.ref x9, .ref x10, .ref x11, .ref x12, .int x13])), (x14, .inl (x15, 8, .inl x16)), (x17, .inl (x18, 150, .inl x19)), (x20, .inl (x21, 150, .inl x22)), (x23, .inl (x24, 150, .inl x25)), (x26, .inl (x27, 6, .inl x28))]
def qa8y (x0 : Nat) (x1 x2 x3 x4 x5 : Value) (x6 : Nat) (x7 x8 x9 : Value) (x10 : Int32) (x11 x12 : Value) (x13 x14 : Nat) (x15 : Value) (x16 x17 x18 : Nat) (x19 : ClassId) (x20 : NI) (x21 x22 x23 x24 x25 : Nat) (x26 : Int32) (x27 : Nat) (x28 : ClassId) (x29 : NI) (x30 : Nat) (x31 : ClassId) (x32 : NI) (x33 : Nat) (x34 : ClassId) (x35 : NI) (x36 : Nat) (x37 : ClassId) (x38 : NI) (x39 : Nat) (x40 : ClassId) (x41 : NI) : va_W := [(x0, .inr (2, [x1, x2, x3, x4, x5, .ref x6, x7, x8, x9, .int x10, x11, x12])), (x13, .inr (1, [.ref x14, x15, .ref x16, .ref x17])), (x18, .inl (x19, 64, .inl x20)), (x21, .inr (4, [.ref x22, .ref x23, .ref x24, .ref x25, .int x26])), (x27, .inl (x28, 8, .inl x29)), (x30, .inl (x31, 150, .inl x32)), (x33, .inl (x34, 150, .inl x35)), (x36, .inl (x37, 150, .inl x38)), (x39, .inl (x40, 6, .inl x41))]
def qDj (x0 x1 : Nat) (x2 : Value) (x3 x4 x5 : Nat) (x6 : ClassId) (x7 : NI) : va_W := [(x0, .inr (1, [.ref x1, x2, .ref x3, .ref x4])), (x5, .inl (x6, 64, .inl x7))]
def qamg (x0 : Nat) (x1 : Value) (x2 : Nat) (x3 x4 x5 x6 x7 x8 : Value) (x9 : Nat) (x10 x11 x12 x13 x14 x15 x16 x17 : Value) (x18 x19 : Int32) (x20 : Nat) (x21 x22 x23 x24 x25 : Value) (x26 : Nat) (x27 x28 x29 : Value) (x30 : Int32) (x31 x32 : Value) (x33 x34 x35 x36 x37 : Nat) (x38 : Int32) (x39 : Nat) (x40 : ClassId) (x41 : NI) (x42 : Nat) (x43 : ClassId) (x44 : NI) (x45 : Nat) (x46 : ClassId) (x47 : NI) (x48 : Nat) (x49 : ClassId) (x50 : NI) (x51 : Nat) (x52 : ClassId) (x53 : NI) : va_W := [(x0, .inr (10, [x1, .ref x2, x3, x4, x5, x6, x7, x8, .ref x9, x10, x11, x12, x13, x14, x15, x16, x17, .int x18, .int x19])), (x20, .inr (2, [x21, x22, x23, x24, x25, .ref x26, x27, x28, x29, .int x30, x31, x32])), (x33, .inr (4, [.ref x34, .ref x35, .ref x36, .ref x37, .int x38])), (x39, .inl (x40, 8, .inl x41)), (x42, .inl (x43, 150, .inl x44)), (x45, .inl (x46, 150, .inl x47)), (x48, .inl (x49, 150, .inl x50)), (x51, .inl (x52, 6, .inl x53))]
def qbad (x0 x1 : Nat) (x2 : Value) (x3 x4 x5 : Nat) (x6 : ClassId) (x7 : NI) (x8 : Nat) (x9 x10 x11 x12 x13 : Value) (x14 : Nat) (x15 x16 x17 : Value) (x18 : Int32) (x19 x20 : Value) (x21 x22 x23 x24 x25 : Nat) (x26 : Int32) (x27 : Nat) (x28 : ClassId) (x29 : NI) (x30 : Nat) (x31 : ClassId) (x32 : NI) (x33 : Nat) (x34 : ClassId) (x35 : NI) (x36 : Nat) (x37 : ClassId) (x38 : NI) : va_W := [(x0, .inr (1, [.ref x1, x2, .ref x3, .ref x4])), (x5, .inl (x6, 64, .inl x7)), (x8, .inr (2, [x9, x10, x11, x12, x13, .ref x14, x15, x16, x17, .int x18, x19, x20])), (x21, .inr (4, [.ref x22, .ref x23, .ref x24, .ref x25, .int x26])), (x27, .inl (x28, 8, .inl x29)), (x30, .inl (x31, 150, .inl x32)), (x33, .inl (x34, 150, .inl x35)), (x36, .inl (x37, 150, .inl x38))]
def qaOC (x0 x1 : Nat) (x2 : Value) (x3 x4 x5 : Nat) (x6 x7 x8 x9 x10 : Value) (x11 : Nat) (x12 x13 x14 : Value) (x15 : Int32) (x16 x17 : Value) (x18 : Nat) (x19 : ClassId) (x20 : NI) : va_W := [(x0, .inr (1, [.ref x1, x2, .ref x3, .ref x4])), (x5, .inr (2, [x6, x7, x8, x9, x10, .ref x11, x12, x13, x14, .int x15, x16, x17])), (x18, .inl (x19, 64, .inl x20))]
def qa65 (x0 : Nat) (x1 : Value) (x2 : Nat) (x3 x4 x5 x6 x7 x8 : Value) (x9 : Nat) (x10 x11 x12 x13 x14 x15 x16 x17 : Value) (x18 x19 : Int32) (x20 x21 x22 x23 x24 : Nat) (x25 : Int32) (x26 : Nat) (x27 : ClassId) (x28 : NI) (x29 : Nat) (x30 : ClassId) (x31 : NI) (x32 : Nat) (x33 : ClassId) (x34 : NI) (x35 : Nat) (x36 : ClassId) (x37 : NI) (x38 : Nat) (x39 : ClassId) (x40 : NI) : va_W := [(x0, .inr (10, [x1, .ref x2, x3, x4, x5, x6, x7, x8, .ref x9, x10, x11, x12, x13, x14, x15, x16, x17, .int x18, .int x19])), (x20, .inr (4, [.ref x21, .ref x22, .ref x23, .ref x24, .int x25])), (x26, .inl (x27, 8, .inl x28)), (x29, .inl (x30, 150, .inl x31)), (x32, .inl (x33, 150, .inl x34)), (x35, .inl (x36, 150, .inl x37)), (x38, .inl (x39, 6, .inl x40))]
def qLY (x0 : Nat) (x1 : Value) (x2 : Nat) (x3 : Value) (x4 : Nat) (x5 x6 x7 x8 : Value) (x9 : Nat) (x10 x11 x12 x13 x14 x15 x16 x17 : Value) (x18 x19 : Int32) (x20 : Nat) (x21 x22 x23 x24 x25 : Value) (x26 : Nat) (x27 x28 x29 : Value) (x30 : Int32) (x31 x32 : Value) (x33 x34 : Nat) (x35 : Value) (x36 x37 x38 : Nat) (x39 : ClassId) (x40 : NI) (x41 x42 x43 x44 x45 : Nat) (x46 : Int32) (x47 : Nat) (x48 : ClassId) (x49 : NI) (x50 : Nat) (x51 : ClassId) (x52 : NI) (x53 : Nat) (x54 : ClassId) (x55 : NI) (x56 : Nat) (x57 : ClassId) (x58 : NI) (x59 : Nat) (x60 : ClassId) (x61 : NI) (x62 : Nat) (x63 : ClassId) (x64 : Nat) (x65 : Nat → Int64) : va_W := [(x0, .inr (10, [x1, .ref x2, x3, .ref x4, x5, x6, x7, x8, .ref x9, x10, x11, x12, x13, x14, x15, x16, x17, .int x18, .int x19])), (x20, .inr (2, [x21, x22, x23, x24, x25, .ref x26, x27, x28, x29, .int x30, x31, x32])), (x33, .inr (1, [.ref x34, x35, .ref x36, .ref x37])), (x38, .inl (x39, 64, .inl x40)), (x41, .inr (4, [.ref x42, .ref x43, .ref x44, .ref x45, .int x46])), (x47, .inl (x48, 8, .inl x49)), (x50, .inl (x51, 150, .inl x52)), (x53, .inl (x54, 150, .inl x55)), (x56, .inl (x57, 150, .inl x58)), (x59, .inl (x60, 6, .inl x61)), (x62, .inl (x63, x64, .inr (.inl x65)))]
def qaXp (x0 : Nat) (x1 : Value) (x2 : Nat) (x3 : Value) (x4 : Nat) (x5 x6 x7 x8 : Value) (x9 : Nat) (x10 x11 x12 x13 x14 x15 x16 x17 : Value) (x18 x19 : Int32) (x20 : Nat) (x21 x22 x23 x24 x25 : Value) (x26 : Nat) (x27 x28 x29 : Value) (x30 : Int32) (x31 x32 : Value) (x33 x34 : Nat) (x35 : Value) (x36 x37 x38 : Nat) (x39 : ClassId) (x40 : NI) (x41 x42 x43 x44 x45 : Nat) (x46 : Int32) (x47 : Nat) (x48 : ClassId) (x49 : NI) (x50 : Nat) (x51 : ClassId) (x52 : NI) (x53 : Nat) (x54 : ClassId) (x55 : NI) (x56 : Nat) (x57 : ClassId) (x58 : NI) (x59 : Nat) (x60 : ClassId) (x61 : NI) : va_W := [(x0, .inr (10, [x1, .ref x2, x3, .ref x4, x5, x6, x7, x8, .ref x9, x10, x11, x12, x13, x14, x15, x16, x17, .int x18, .int x19])), (x20, .inr (2, [x21, x22, x23, x24, x25, .ref x26, x27, x28, x29, .int x30, x31, x32])), (x33, .inr (1, [.ref x34, x35, .ref x36, .ref x37])), (x38, .inl (x39, 64, .inl x40)), (x41, .inr (4, [.ref x42, .ref x43, .ref x44, .ref x45, .int x46])), (x47, .inl (x48, 8, .inl x49)), (x50, .inl (x51, 150, .inl x52)), (x53, .inl (x54, 150, .inl x55)), (x56, .inl (x57, 150, .inl x58)), (x59, .inl (x60, 6, .inl x61))]
def qAU (x0 : Nat) (x1 : Value) (x2 : Nat) (x3 x4 x5 x6 x7 x8 : Value) (x9 : Nat) (x10 x11 x12 x13 x14 x15 x16 x17 : Value) (x18 : Int32) (x19 : Value) (x20 x21 x22 : Nat) (x23 x24 x25 x26 x27 x28 : Value) (x29 x30 : Int32) (x31 x32 : Value) (x33 x34 : Nat) (x35 : Value) (x36 x37 x38 : Nat) (x39 : ClassId) (x40 : NI) (x41 x42 x43 x44 x45 : Nat) (x46 : Int32) (x47 : Nat) (x48 : ClassId) (x49 : NI) (x50 : Nat) (x51 : ClassId) (x52 : NI) (x53 : Nat) (x54 : ClassId) (x55 : NI) (x56 : Nat) (x57 : ClassId) (x58 : NI) (x59 : Nat) (x60 : ClassId) (x61 : NI) (x62 : Nat) (x63 : ClassId) (x64 : NI) : va_W := [(x0, .inr (10, [x1, .ref x2, x3, x4, x5, x6, x7, x8, .ref x9, x10, x11, x12, x13, x14, x15, x16, x17, .int x18, x19])), (x20, .inr (2, [.ref x21, .ref x22, x23, x24, x25, x26, x27, x28, .int x29, .int x30, x31, x32])), (x33, .inr (1, [.ref x34, x35, .ref x36, .ref x37])), (x38, .inl (x39, 64, .inl x40)), (x41, .inr (4, [.ref x42, .ref x43, .ref x44, .ref x45, .int x46])), (x47, .inl (x48, 8, .inl x49)), (x50, .inl (x51, 150, .inl x52)), (x53, .inl (x54, 150, .inl x55)), (x56, .inl (x57, 150, .inl x58)), (x59, .inl (x60, 8, .inl x61)), (x62, .inl (x63, 8, .inl x64))]
def qal8 (x0 : Nat) (x1 : Value) (x2 : Nat) (x3 x4 x5 x6 x7 x8 : Value) (x9 : Nat) (x10 x11 x12 x13 x14 x15 x16 x17 : Value) (x18 : Int32) (x19 : Value) (x20 x21 x22 : Nat) (x23 x24 x25 x26 x27 x28 : Value) (x29 x30 : Int32) (x31 x32 : Value) : va_W := [(x0, .inr (10, [x1, .ref x2, x3, x4, x5, x6, x7, x8, .ref x9, x10, x11, x12, x13, x14, x15, x16, x17, .int x18, x19])), (x20, .inr (2, [.ref x21, .ref x22, x23, x24, x25, x26, x27, x28, .int x29, .int x30, x31, x32]))]
def qaNA (x0 x1 : Nat) (x2 : Value) (x3 x4 x5 : Nat) (x6 : ClassId) (x7 : NI) (x8 x9 x10 x11 x12 : Nat) (x13 : Int32) (x14 : Nat) (x15 : ClassId) (x16 : NI) (x17 : Nat) (x18 : ClassId) (x19 : NI) (x20 : Nat) (x21 : ClassId) (x22 : NI) (x23 : Nat) (x24 : ClassId) (x25 : NI) (x26 : Nat) (x27 : ClassId) (x28 : NI) (x29 : Nat) (x30 : ClassId) (x31 : NI) : va_W := [(x0, .inr (1, [.ref x1, x2, .ref x3, .ref x4])), (x5, .inl (x6, 64, .inl x7)), (x8, .inr (4, [.ref x9, .ref x10, .ref x11, .ref x12, .int x13])), (x14, .inl (x15, 8, .inl x16)), (x17, .inl (x18, 150, .inl x19)), (x20, .inl (x21, 150, .inl x22)), (x23, .inl (x24, 150, .inl x25)), (x26, .inl (x27, 8, .inl x28)), (x29, .inl (x30, 8, .inl x31))]
def qa7x (x0 : Nat) (x1 : Value) (x2 : Nat) (x3 x4 x5 x6 x7 x8 : Value) (x9 : Nat) (x10 x11 x12 x13 x14 x15 x16 x17 : Value) (x18 : Int32) (x19 : Value) (x20 x21 x22 : Nat) (x23 x24 x25 x26 x27 x28 : Value) (x29 x30 : Int32) (x31 x32 : Value) (x33 x34 x35 x36 x37 : Nat) (x38 : Int32) (x39 : Nat) (x40 : ClassId) (x41 : NI) (x42 : Nat) (x43 : ClassId) (x44 : NI) (x45 : Nat) (x46 : ClassId) (x47 : NI) (x48 : Nat) (x49 : ClassId) (x50 : NI) (x51 : Nat) (x52 : ClassId) (x53 : NI) (x54 : Nat) (x55 : ClassId) (x56 : NI) : va_W := [(x0, .inr (10, [x1, .ref x2, x3, x4, x5, x6, x7, x8, .ref x9, x10, x11, x12, x13, x14, x15, x16, x17, .int x18, x19])), (x20, .inr (2, [.ref x21, .ref x22, x23, x24, x25, x26, x27, x28, .int x29, .int x30, x31, x32])), (x33, .inr (4, [.ref x34, .ref x35, .ref x36, .ref x37, .int x38])), (x39, .inl (x40, 8, .inl x41)), (x42, .inl (x43, 150, .inl x44)), (x45, .inl (x46, 150, .inl x47)), (x48, .inl (x49, 150, .inl x50)), (x51, .inl (x52, 8, .inl x53)), (x54, .inl (x55, 8, .inl x56))]
def qa7V (x0 x1 : Nat) (x2 : Value) (x3 x4 x5 : Nat) (x6 : ClassId) (x7 : NI) (x8 x9 x10 : Nat) (x11 x12 x13 x14 x15 x16 : Value) (x17 x18 : Int32) (x19 x20 : Value) (x21 x22 x23 x24 x25 : Nat) (x26 : Int32) (x27 : Nat) (x28 : ClassId) (x29 : NI) (x30 : Nat) (x31 : ClassId) (x32 : NI) (x33 : Nat) (x34 : ClassId) (x35 : NI) (x36 : Nat) (x37 : ClassId) (x38 : NI) : va_W := [(x0, .inr (1, [.ref x1, x2, .ref x3, .ref x4])), (x5, .inl (x6, 64, .inl x7)), (x8, .inr (2, [.ref x9, .ref x10, x11, x12, x13, x14, x15, x16, .int x17, .int x18, x19, x20])), (x21, .inr (4, [.ref x22, .ref x23, .ref x24, .ref x25, .int x26])), (x27, .inl (x28, 8, .inl x29)), (x30, .inl (x31, 150, .inl x32)), (x33, .inl (x34, 150, .inl x35)), (x36, .inl (x37, 150, .inl x38))]
def qa7U (x0 x1 x2 : Nat) (x3 x4 x5 x6 x7 x8 : Value) (x9 x10 : Int32) (x11 x12 : Value) (x13 : Nat) (x14 : ClassId) (x15 : NI) (x16 : Nat) (x17 : ClassId) (x18 : NI) : va_W := [(x0, .inr (2, [.ref x1, .ref x2, x3, x4, x5, x6, x7, x8, .int x9, .int x10, x11, x12])), (x13, .inl (x14, 8, .inl x15)), (x16, .inl (x17, 8, .inl x18))]
def qMU (x0 : Nat) (x1 : Value) (x2 : Nat) (x3 : Value) (x4 : Nat) (x5 x6 x7 x8 : Value) (x9 : Nat) (x10 x11 x12 x13 x14 x15 x16 x17 : Value) (x18 : Int32) (x19 : Value) (x20 x21 x22 : Nat) (x23 x24 x25 x26 x27 x28 : Value) (x29 x30 : Int32) (x31 x32 : Value) (x33 x34 : Nat) (x35 : Value) (x36 x37 x38 : Nat) (x39 : ClassId) (x40 : NI) (x41 x42 x43 x44 x45 : Nat) (x46 : Int32) (x47 : Nat) (x48 : ClassId) (x49 : NI) (x50 : Nat) (x51 : ClassId) (x52 : NI) (x53 : Nat) (x54 : ClassId) (x55 : NI) (x56 : Nat) (x57 : ClassId) (x58 : NI) (x59 : Nat) (x60 : ClassId) (x61 : NI) (x62 : Nat) (x63 : ClassId) (x64 : NI) (x65 : Nat) (x66 : ClassId) (x67 : Nat) (x68 : Nat → Int64) : va_W := [(x0, .inr (10, [x1, .ref x2, x3, .ref x4, x5, x6, x7, x8, .ref x9, x10, x11, x12, x13, x14, x15, x16, x17, .int x18, x19])), (x20, .inr (2, [.ref x21, .ref x22, x23, x24, x25, x26, x27, x28, .int x29, .int x30, x31, x32])), (x33, .inr (1, [.ref x34, x35, .ref x36, .ref x37])), (x38, .inl (x39, 64, .inl x40)), (x41, .inr (4, [.ref x42, .ref x43, .ref x44, .ref x45, .int x46])), (x47, .inl (x48, 8, .inl x49)), (x50, .inl (x51, 150, .inl x52)), (x53, .inl (x54, 150, .inl x55)), (x56, .inl (x57, 150, .inl x58)), (x59, .inl (x60, 8, .inl x61)), (x62, .inl (x63, 8, .inl x64)), (x65, .inl (x66, x67, .inr (.inl x68)))]
def qaYd (x0 : Nat) (x1 : Value) (x2 : Nat) (x3 : Value) (x4 : Nat) (x5 x6 x7 x8 : Value) (x9 : Nat) (x10 x11 x12 x13 x14 x15 x16 x17 : Value) (x18 : Int32) (x19 : Value) (x20 x21 x22 : Nat) (x23 x24 x25 x26 x27 x28 : Value) (x29 x30 : Int32) (x31 x32 : Value) (x33 x34 : Nat) (x35 : Value) (x36 x37 x38 : Nat) (x39 : ClassId) (x40 : NI) (x41 x42 x43 x44 x45 : Nat) (x46 : Int32) (x47 : Nat) (x48 : ClassId) (x49 : NI) (x50 : Nat) (x51 : ClassId) (x52 : NI) (x53 : Nat) (x54 : ClassId) (x55 : NI) (x56 : Nat) (x57 : ClassId) (x58 : NI) (x59 : Nat) (x60 : ClassId) (x61 : NI) (x62 : Nat) (x63 : ClassId) (x64 : NI) : va_W := [(x0, .inr (10, [x1, .ref x2, x3, .ref x4, x5, x6, x7, x8, .ref x9, x10, x11, x12, x13, x14, x15, x16, x17, .int x18, x19])), (x20, .inr (2, [.ref x21, .ref x22, x23, x24, x25, x26, x27, x28, .int x29, .int x30, x31, x32])), (x33, .inr (1, [.ref x34, x35, .ref x36, .ref x37])), (x38, .inl (x39, 64, .inl x40)), (x41, .inr (4, [.ref x42, .ref x43, .ref x44, .ref x45, .int x46])), (x47, .inl (x48, 8, .inl x49)), (x50, .inl (x51, 150, .inl x52)), (x53, .inl (x54, 150, .inl x55)), (x56, .inl (x57, 150, .inl x58)), (x59, .inl (x60, 8, .inl x61)), (x62, .inl (x63, 8, .inl x64))]
def qJQ (x0 x1 : Nat) (x2 x3 : Int32) (x4 x5 x6 x7 : Value) (x8 : Nat) (x9 : ClassId) (x10 : NI) : va_W := [(x0, .inr (8, [.ref x1, .int x2, .int x3, x4, x5, x6, x7])), (x8, .inl (x9, 600, .inl x10))]
def qJR (x0 x1 : Nat) (x2 x3 : Int32) (x4 x5 : Value) (x6 x7 : Int32) (x8 : Nat) (x9 : ClassId) (x10 : NI) : va_W := [(x0, .inr (8, [.ref x1, .int x2, .int x3, x4, x5, .int x6, .int x7])), (x8, .inl (x9, 600, .inl x10))]
def qalY (x0 : Nat) (x1 x2 x3 x4 : Value) : va_W := [(x0, .inr (1, [x1, x2, x3, x4]))]
def qaWB (x0 : Nat) (x1 x2 x3 : Value) (x4 : Nat) : va_W := [(x0, .inr (1, [x1, x2, x3, .ref x4]))]
def qQ8 (x0 : Nat) (x1 x2 x3 : Value) (x4 : Nat) (x5 x6 x7 x8 x9 x10 x11 : Value) (x12 : Nat) (x13 : ClassId) (x14 : NI) : va_W := [(x0, .inr (3, [x1, x2, x3, .ref x4, x5, x6, x7, x8, x9, x10, x11])), (x12, .inl (x13, 7, .inl x14))]
def qpN (x0 x1 x2 x3 x4 : Nat) (x5 x6 : Int32) (x7 x8 x9 x10 x11 : Value) (x12 : Nat) (x13 : ClassId) (x14 : NI) (x15 : Nat) (x16 : ClassId) (x17 : NI) (x18 : Nat) (x19 : ClassId) (x20 : NI) (x21 : Nat) (x22 : ClassId) (x23 : NI) : va_W := [(x0, .inr (3, [.ref x1, .ref x2, .ref x3, .ref x4, .int x5, .int x6, x7, x8, x9, x10, x11])), (x12, .inl (x13, 7, .inl x14)), (x15, .inl (x16, 6, .inl x17)), (x18, .inl (x19, 8, .inl x20)), (x21, .inl (x22, 6, .inl x23))]
def qban (x0 x1 x2 x3 x4 : Nat) (x5 x6 : Int32) (x7 x8 x9 x10 x11 : Value) (x12 : Nat) (x13 : ClassId) (x14 : NI) (x15 : Nat) (x16 : ClassId) (x17 : NI) : va_W := [(x0, .inr (3, [.ref x1, .ref x2, .ref x3, .ref x4, .int x5, .int x6, x7, x8, x9, x10, x11])), (x12, .inl (x13, 8, .inl x14)), (x15, .inl (x16, 6, .inl x17))]
def qa5Z (x0 x1 x2 x3 x4 : Nat) (x5 x6 : Int32) (x7 x8 x9 x10 x11 : Value) (x12 : Nat) (x13 : ClassId) (x14 : NI) : va_W := [(x0, .inr (3, [.ref x1, .ref x2, .ref x3, .ref x4, .int x5, .int x6, x7, x8, x9, x10, x11])), (x12, .inl (x13, 7, .inl x14))]
theorem qaE2 : ∀ w ∈ u_ws RX10 TX10 19, w ∈ wsX10_far := uiM qUN qyN (by decide +kernel)
theorem qaId : (.fieldLink RX10 19 "MarchHares" "ground" "LMarchHares$Down;" : Cond) ∈ wsX10_far := qUN 20 (by decide +kernel)
set_option maxHeartbeats 4000000 in
set_option maxRecDepth 100000 in
theorem qa2h (l : Launch) (dC : Nat → ClassId) (dI : Nat → Nat → Nat) (cyB cyI cyJ cyP : ClassId) (a0 jaR jbs jbt sz : Nat) (jaK ja1 jcp jbc jbV ja3 jbH ja2 jbO jaq jac jbI jbl jbn jba jaa jdD jbo jbp jbk jbj jbf jbq jgQ jbi jcd : Value) (jbE : Int32) (jci jcj : NI) (jdu p1 p2 : Int32) {E : String → Int32 → Prop} {Q : Int32 → Int32 → Prop} (hw : qakx jbE jci jcj jdu p1 p2 E Q) : vx_Met l yX10_far wsX10_far ({ frames := 7, cells := 2, slots := 12, locals := 141 }) (va_Pc [.ref a0, .int p1, .int p2] (cPx l (dC, dI) (kT cyB cyI cyJ cyP) (qJe a0 jaK jaR ja1 jcp jbc jbV ja3 jbH ja2 jbO jaq jac jbI jbl jbn jba jaa jdu jdD jaR jbs jbt jbo jbp jbk jbj jbf jbq jbE jgQ jbi jcd jbs cyI jci jbt cyI jcj) sz)) (va_Qi (fun (r u : Int32) => Q r u) (cB (dC, dI) (kT cyB cyI cyJ cyP) (va_A (qJe a0 jaK jaR ja1 jcp jbc jbV ja3 jbH ja2 jbO jaq jac jbI jbl jbn jba jaa jdu jdD jaR jbs jbt jbo jbp jbk jbj jbf jbq jbE jgQ jbi jcd jbs cyI jci jbt cyI jcj) sz) (fun u : Int32 => ((qJe a0 jaK jaR ja1 jcp jbc jbV ja3 jbH ja2 jbO jaq jac jbI jbl jbn jba jaa u jdD jaR jbs jbt jbo jbp jbk jbj jbf jbq jbE jgQ jbi jcd jbs cyI jci jbt cyI jcj) : va_W))) (va_A (qJe a0 jaK jaR ja1 jcp jbc jbV ja3 jbH ja2 jbO jaq jac jbI jbl jbn jba jaa jdu jdD jaR jbs jbt jbo jbp jbk jbj jbf jbq jbE jgQ jbi jcd jbs cyI jci jbt cyI jcj) sz)) (vx_X (fun _ => True) (fun (en : String) (u : Int32) (t : State) => E en u ∧ cB (dC, dI) (kT cyB cyI cyJ cyP) (va_A (qJe a0 jaK jaR ja1 jcp jbc jbV ja3 jbH ja2 jbO jaq jac jbI jbl jbn jba jaa jdu jdD jaR jbs jbt jbo jbp jbk jbj jbf jbq jbE jgQ jbi jcd jbs cyI jci jbt cyI jcj) sz) (fun u : Int32 => ((qJe a0 jaK jaR ja1 jcp jbc jbV ja3 jbH ja2 jbO jaq jac jbI jbl jbn jba jaa u jdD jaR jbs jbt jbo jbp jbk jbj jbf jbq jbE jgQ jbi jcd jbs cyI jci jbt cyI jcj) : va_W)) u t) (va_A (qJe a0 jaK jaR ja1 jcp jbc jbV ja3 jbH ja2 jbO jaq jac jbI jbl jbn jba jaa jdu jdD jaR jbs jbt jbo jbp jbk jbj jbf jbq jbE jgQ jbi jcd jbs cyI jci jbt cyI jcj) sz)) 2 12 (va_A (qJe a0 jaK jaR ja1 jcp jbc jbV ja3 jbH ja2 jbO jaq jac jbI jbl jbn jba jaa jdu jdD jaR jbs jbt jbo jbp jbk jbj jbf jbq jbE jgQ jbi jcd jbs cyI jci jbt cyI jcj) sz) := by
  refine vx_ofW (cc := cX10_far) (maxL := 3) (ret := (some .int)) (by decide) rfl ?_
  intro p e s m args below meth c s₁ B hml hnt hv
  obtain ⟨rfl, hsz, hP, hK, hD0, hNw, hXl, hXu, hXn, hXt⟩ := hv
  have hx := B.exec
  have hb := B.bytes
  have hr := B.returns
  have hts := atoms_spec (ws := wsX10_far) B.pre
  have hown : s.vm.findClass RX10 = some m.cls := findClass_of_methodNamed B.named
  have hlocks := B.notSynchronized
  subst hsz
  have hD := hD0.self (sz := s.heap.size)
  generalize hAe : va_A (qJe a0 jaK jaR ja1 jcp jbc jbV ja3 jbH ja2 jbO jaq jac jbI jbl jbn jba jaa jdu jdD jaR jbs jbt jbo jbp jbk jbj jbf jbq jbE jgQ jbi jcd jbs cyI jci jbt cyI jcj) s.heap.size = A at hD hXu hXn ⊢
  have hA : ∀ q : Nat, s.heap.size ≤ q → A q := fun q h => by rw [← hAe]; exact Or.inr h
  have hS : va_S A s.heap s.heap [] := va_S.rf
  have hP : va_P (dC, dI) vwCl (qJe a0 jaK jaR ja1 jcp jbc jbV ja3 jbH ja2 jbO jaq jac jbI jbl jbn jba jaa jdu jdD jaR jbs jbt jbo jbp jbk jbj jbf jbq jbE jgQ jbi jcd jbs cyI jci jbt cyI jcj) s.heap := hP
  have hl := lv_entry ([.ref a0, .int p1, .int p2]) (n := 3) (nbq rfl)
  rw [lg_entry_eq]
  generalize (lg_sl ([.ref a0, .int p1, .int p2]) ++ List.replicate (3 - (lg_sl ([.ref a0, .int p1, .int p2])).length) Slot.unset).toArray = ls at hl ⊢
  have hl : lv_has ls 3 [(0, .ref a0), (1, .int p1), (2, .int p2)] := hl
  have hY : cfY l s A := ⟨hXl, hXu, hXn, hXt⟩
  have hXs : cfX l s c A := ⟨hnt, hY⟩
  have C0 : cfx p s m _ meth c cX10_far (some .int) wsX10_far RX10 3 A (dC, dI) (kT cyB cyI cyJ cyP) ∧ cfX l s c A := ⟨⟨hx, hb, hr, hts, hown, hlocks, hml, hA, hK, hNw⟩, hXs⟩
  clear hAe
  obtain ⟨H, hH⟩ : ∃ H, H = s.heap := ⟨_, rfl⟩
  rw [← hH] at hP ⊢
  have hS : va_S A s.heap H [] := by rw [hH]; exact va_S.rf
  have hS := hS
  refine lv_aload_n hx hb (qaa qsJ 0 rfl) rfl (lv_at hl 0 rfl) ?_
  refine lv_iload_n hx hb (qaa qsJ 1 rfl) rfl (lv_at hl 1 rfl) ?_
  obtain ⟨hCc, hPc, hDc, hFc⟩ := qac (ws' := (qaMi a0 jaK jaR ja1 jcp jbc jbV ja3 jbH ja2 jbO jaq jac jbI jbl jbn jba jaa jdu jdD jaR jbs jbt jbo jbp jbk jbj jbf jbq jbE jgQ jbi jcd)) hP hD hS hA [0, 1] (by decide +kernel) rfl
  refine vx_callv (vx_runV (As := [.int p1]) (rest := []) ⟨hx, hb, hml, hown, hts⟩ (qyi l dC dI cyB cyI cyJ cyP a0 jaR H.size (jaK) (ja1) (jcp) (jbc) (jbV) (ja3) (jbH) (ja2) (jbO) (jaq) (jac) (jbI) (jbl) (jbn) (jba) (jaa) (jdD) (.ref jbs) (.ref jbt) (jbo) (jbp) (jbk) (jbj) (jbf) (jbq) (jgQ) (jbi) (jcd) jbE jdu p1 hw) (cwV 1 hts gX10_far_X10_needForm rfl rfl rfl (by decide +kernel) ⟨nbq rfl, nbq rfl⟩) ⟨qav, va_recv (q := (RX10, TX10, 19)) hK hPc (ci := 10) (q0 := 0) rfl rfl, qbl hPc hK hDc hNw hY hS hFc⟩ rfl rfl hl.1 rfl (lv_room (nbq rfl)) (qaa qsJ 2 rfl) ⟨nbq rfl, nbq rfl⟩) hS (fun q _ h => hFc q h) hFc (fun q _ h => hFc q h) (fun en ce q9 u t H1 locs ht hvm hpx hB hz1 hk1 hS hc9 hv9 hcl9 => ?_) (fun u t H1 locs ht hvm hw hB hz1 hk1 hS => ?_)
  · obtain ⟨x1, rfl⟩ : ∃ z, z = u := ⟨_, rfl⟩
    obtain ⟨hw, hP1, hK1, hD1⟩ := hB
    rw [ht] at hP1
    obtain ⟨hP, hD⟩ := qad (wr := (qa1m jbs cyI jci jbt cyI jcj)) (w1 := (qaMi a0 jaK jaR ja1 jcp jbc jbV ja3 jbH ja2 jbO jaq jac jbI jbl jbn jba jaa x1 jdD jaR jbs jbt jbo jbp jbk jbj jbf jbq jbE jgQ jbi jcd)) (wn := (qJe a0 jaK jaR ja1 jcp jbc jbV ja3 jbH ja2 jbO jaq jac jbI jbl jbn jba jaa x1 jdD jaR jbs jbt jbo jbp jbk jbj jbf jbq jbE jgQ jbi jcd jbs cyI jci jbt cyI jcj)) hP hD [0, 1] [2, 3] [2, 3, 0, 1] hCc rfl (by decide +kernel) (by decide +kernel) (by decide +kernel) rfl hk1 hFc hP1 hD1
    generalize H1 = H at hP hS hc9 ⊢
    exact vx_out (fun x hx9 => (hXs.1 x hx9).elim) hlocks hc9 hv9 hcl9 (fun t2 ht2 hal2 => ⟨(x1), trivial, ⟨hw, by rw [ht2]; exact hP, va_K.moved hal2 hK, hD⟩, hS.F ht2⟩) hS.2.2 (nbq rfl) (nbq rfl)
  obtain ⟨x1, rfl⟩ : ∃ z, z = u := ⟨_, rfl⟩
  obtain ⟨hP1, hK1, hD1⟩ := hB
  rw [ht] at hP1
  obtain ⟨hP, hD⟩ := qad (wr := (qa1m jbs cyI jci jbt cyI jcj)) (w1 := (qaMi a0 jaK jaR ja1 jcp jbc jbV ja3 jbH ja2 jbO jaq jac jbI jbl jbn jba jaa x1 jdD jaR jbs jbt jbo jbp jbk jbj jbf jbq jbE jgQ jbi jcd)) (wn := (qJe a0 jaK jaR ja1 jcp jbc jbV ja3 jbH ja2 jbO jaq jac jbI jbl jbn jba jaa x1 jdD jaR jbs jbt jbo jbp jbk jbj jbf jbq jbE jgQ jbi jcd jbs cyI jci jbt cyI jcj)) hP hD [0, 1] [2, 3] [2, 3, 0, 1] hCc rfl (by decide +kernel) (by decide +kernel) (by decide +kernel) rfl hk1 hFc hP1 hD1
  generalize H1 = H at hP hS ⊢
  refine lv_aload_n hx hb (qaa qsJ 3 rfl) rfl (lv_at hl 0 rfl) ?_
  refine lv_iload_n hx hb (qaa qsJ 4 rfl) rfl (lv_at hl 2 rfl) ?_
  obtain ⟨hCc, hPc, hDc, hFc⟩ := qac (ws' := (qaMi a0 jaK jaR ja1 jcp jbc jbV ja3 jbH ja2 jbO jaq jac jbI jbl jbn jba jaa x1 jdD jaR jbs jbt jbo jbp jbk jbj jbf jbq jbE jgQ jbi jcd)) hP hD hS hA [0, 1] (by decide +kernel) rfl
  refine vx_callv (vx_runV (As := [.int p2]) (rest := []) ⟨hx, hb, hml, hown, hts⟩ (qyi l dC dI cyB cyI cyJ cyP a0 jaR H.size (jaK) (ja1) (jcp) (jbc) (jbV) (ja3) (jbH) (ja2) (jbO) (jaq) (jac) (jbI) (jbl) (jbn) (jba) (jaa) (jdD) (.ref jbs) (.ref jbt) (jbo) (jbp) (jbk) (jbj) (jbf) (jbq) (jgQ) (jbi) (jcd) jbE x1 p2 hw) (cwV 1 hts gX10_far_X10_needForm rfl rfl rfl (by decide +kernel) ⟨nbq rfl, nbq rfl⟩) ⟨qav, va_recv (q := (RX10, TX10, 19)) hK hPc (ci := 10) (q0 := 0) rfl rfl, qbl hPc hK hDc hNw hY hS hFc⟩ rfl rfl hl.1 rfl (lv_room (nbq rfl)) (qaa qsJ 5 rfl) ⟨nbq rfl, nbq rfl⟩) hS (fun q _ h => hFc q h) hFc (fun q _ h => hFc q h) (fun en ce q9 u t H1 locs ht hvm hpx hB hz1 hk1 hS hc9 hv9 hcl9 => ?_) (fun u t H1 locs ht hvm hw hB hz1 hk1 hS => ?_)
  · obtain ⟨x2, rfl⟩ : ∃ z, z = u := ⟨_, rfl⟩
    obtain ⟨hw, hP1, hK1, hD1⟩ := hB
    rw [ht] at hP1
    obtain ⟨hP, hD⟩ := qad (wr := (qa1m jbs cyI jci jbt cyI jcj)) (w1 := (qaMi a0 jaK jaR ja1 jcp jbc jbV ja3 jbH ja2 jbO jaq jac jbI jbl jbn jba jaa x2 jdD jaR jbs jbt jbo jbp jbk jbj jbf jbq jbE jgQ jbi jcd)) (wn := (qJe a0 jaK jaR ja1 jcp jbc jbV ja3 jbH ja2 jbO jaq jac jbI jbl jbn jba jaa x2 jdD jaR jbs jbt jbo jbp jbk jbj jbf jbq jbE jgQ jbi jcd jbs cyI jci jbt cyI jcj)) hP hD [0, 1] [2, 3] [2, 3, 0, 1] hCc rfl (by decide +kernel) (by decide +kernel) (by decide +kernel) rfl hk1 hFc hP1 hD1
    generalize H1 = H at hP hS hc9 ⊢
    exact vx_out (fun x hx9 => (hXs.1 x hx9).elim) hlocks hc9 hv9 hcl9 (fun t2 ht2 hal2 => ⟨(x2), trivial, ⟨hw, by rw [ht2]; exact hP, va_K.moved hal2 hK, hD⟩, hS.F ht2⟩) hS.2.2 (nbq rfl) (nbq rfl)
  obtain ⟨x2, rfl⟩ : ∃ z, z = u := ⟨_, rfl⟩
  obtain ⟨hP1, hK1, hD1⟩ := hB
  rw [ht] at hP1
  obtain ⟨hP, hD⟩ := qad (wr := (qa1m jbs cyI jci jbt cyI jcj)) (w1 := (qaMi a0 jaK jaR ja1 jcp jbc jbV ja3 jbH ja2 jbO jaq jac jbI jbl jbn jba jaa x2 jdD jaR jbs jbt jbo jbp jbk jbj jbf jbq jbE jgQ jbi jcd)) (wn := (qJe a0 jaK jaR ja1 jcp jbc jbV ja3 jbH ja2 jbO jaq jac jbI jbl jbn jba jaa x2 jdD jaR jbs jbt jbo jbp jbk jbj jbf jbq jbE jgQ jbi jcd jbs cyI jci jbt cyI jcj)) hP hD [0, 1] [2, 3] [2, 3, 0, 1] hCc rfl (by decide +kernel) (by decide +kernel) (by decide +kernel) rfl hk1 hFc hP1 hD1
  generalize H1 = H at hP hS ⊢
  refine lv_aload_n hx hb (qaa qsJ 6 rfl) rfl (lv_at hl 0 rfl) ?_
  refine va_get (D := (dC, dI)) (ci := 10) (v := .ref jaR) (C := RX10) (T := TX10) (N := 19) hx hb hts qaE2 hown hK hP 0 rfl rfl 1 (by decide) (hts _ qaId) (fun _ h9 => h9) rfl (qaa qsJ 7 rfl) ?_
  refine lv_iload_n hx hb (qaa qsJ 8 rfl) rfl (lv_at hl 1 rfl) ?_
  refine lv_iload_n hx hb (qaa qsJ 9 rfl) rfl (lv_at hl 2 rfl) ?_
  obtain ⟨hCc, hPc, hDc, hFc⟩ := qac (ws' := (qnw jaR jbs jbt jbo jbp jbk jbj jbf jbq jbE jgQ jbi jcd jbs cyI jci jbt cyI jcj)) hP hD hS hA [1, 2, 3] (by decide +kernel) rfl
  refine va_calli (va_runV (As := [.int p1, .int p2]) (rest := []) ⟨hx, hb, hml, hown, hts⟩ (qBE l dC dI cyB cyI cyJ cyP jaR jbs jbt H.size (jbo) (jbp) (jbk) (jbj) (jbf) (jbq) (.int jbE) (jgQ) (jbi) (jcd) jci jcj p1 p2 hw) (cwV 2 hts gX10_far_X2_apart rfl rfl rfl (by decide +kernel) ⟨nbq rfl, nbq rfl⟩) ⟨qab, va_recv (q := (RX2, TX2, 12)) hK hPc (ci := 2) (q0 := 0) rfl rfl, qae hPc hK hDc hNw⟩ rfl rfl hl.1 rfl (lv_room (nbq rfl)) (qaa qsJ 10 rfl) ⟨nbq rfl, nbq rfl⟩) hS (fun q _ h => hFc q h) hFc (fun r3 u t H1 locs ht hvm hw hB hz1 hk1 hS => ?_)
  obtain ⟨hP1, hK1, hD1⟩ := hB
  rw [ht] at hP1
  obtain ⟨hP, hD⟩ := qah (wr := [(a0, .inr (10, [jaK, .ref jaR, ja1, jcp, jbc, jbV, ja3, jbH, ja2, jbO, jaq, jac, jbI, jbl, jbn, jba, jaa, .int x2, jdD]))]) (w1 := (qnw jaR jbs jbt jbo jbp jbk jbj jbf jbq jbE jgQ jbi jcd jbs cyI jci jbt cyI jcj)) (wn := (qJe a0 jaK jaR ja1 jcp jbc jbV ja3 jbH ja2 jbO jaq jac jbI jbl jbn jba jaa x2 jdD jaR jbs jbt jbo jbp jbk jbj jbf jbq jbE jgQ jbi jcd jbs cyI jci jbt cyI jcj)) hP hD [1, 2, 3] [0] hCc rfl (by decide +kernel) (by decide +kernel) rfl hk1 hFc hP1 hD1
  generalize H1 = H at hP hS ⊢
  exact vx_ret (W.widen (k := 2) (n := 12) (nbq rfl) (nbq rfl) (W.iret (v := r3) hx hb hr (fun t ht hW => ⟨⟨r3, (x2), rfl, hw, by rw [ht]; exact hP, va_K.moved hW.alike hK, hD⟩, hS.F ht⟩) hS.2.2 (qaa qsJ 11 rfl)))
theorem qaPA : (.classLink RL 31 "java/util/NoSuchElementException" : Cond) ∈ wsL_far := qaPk 2643 (by decide +kernel)
theorem qaZo : (.codeWith yL_far cL_far 5 (some .int) [(0, 10, 13, 31)] : Cond) ∈ wsL_far := qaPk 2882 (by decide +kernel)
set_option maxHeartbeats 4000000 in
set_option maxRecDepth 100000 in
theorem qbbT (l : Launch) (dC : Nat → ClassId) (dI : Nat → Nat → Nat) (cyB cyI cyJ cyP : ClassId) (a0 a3 jaR jbs jbt sz : Nat) (jaK ja1 jcp jbc jbV ja3 jbH ja2 jbO jaq jac jbI jbl jbn jba jaa jdD jbo jbp jbk jbj jbf jbq jgQ jbi jcd : Value) (n3 : Nat) (jbE : Int32) (jci jcj : NI) (jdu : Int32) (f3 : Nat → Int64) (p1 p2 : Int32) {Q : Int32 → Int32 → (Nat → Int64) → Prop} (hw : qa0m n3 jbE jci jcj jdu f3 p1 p2 Q) : Met l yL_far wsL_far ({ frames := 8, cells := 2, slots := 12, locals := 163 }) (va_Pc [.ref a0, .int p1, .int p2, .ref a3] (cPx l (dC, dI) (kT cyB cyI cyJ cyP) (qZF a0 jaK jaR ja1 jcp jbc jbV ja3 jbH ja2 jbO jaq jac jbI jbl jbn jba jaa jdu jdD jaR jbs jbt jbo jbp jbk jbj jbf jbq jbE jgQ jbi jcd jbs cyI jci jbt cyI jcj a3 cyJ n3 f3) sz)) (va_Qi (fun (r : Int32) (u : Int32 × (Nat → Int64)) => Q r u.1 u.2) (cB (dC, dI) (kT cyB cyI cyJ cyP) (va_A (qZF a0 jaK jaR ja1 jcp jbc jbV ja3 jbH ja2 jbO jaq jac jbI jbl jbn jba jaa jdu jdD jaR jbs jbt jbo jbp jbk jbj jbf jbq jbE jgQ jbi jcd jbs cyI jci jbt cyI jcj a3 cyJ n3 f3) sz) (fun u : Int32 × (Nat → Int64) => ((qZF a0 jaK jaR ja1 jcp jbc jbV ja3 jbH ja2 jbO jaq jac jbI jbl jbn jba jaa u.1 jdD jaR jbs jbt jbo jbp jbk jbj jbf jbq jbE jgQ jbi jcd jbs cyI jci jbt cyI jcj a3 cyJ n3 u.2) : va_W))) (va_A (qZF a0 jaK jaR ja1 jcp jbc jbV ja3 jbH ja2 jbO jaq jac jbI jbl jbn jba jaa jdu jdD jaR jbs jbt jbo jbp jbk jbj jbf jbq jbE jgQ jbi jcd jbs cyI jci jbt cyI jcj a3 cyJ n3 f3) sz)) 2 12 (va_A (qZF a0 jaK jaR ja1 jcp jbc jbV ja3 jbH ja2 jbO jaq jac jbI jbl jbn jba jaa jdu jdD jaR jbs jbt jbo jbp jbk jbj jbf jbq jbE jgQ jbi jcd jbs cyI jci jbt cyI jcj a3 cyJ n3 f3) sz) := by
  refine va_MetW (cc := cL_far) (maxL := 5) (ret := (some .int)) (by decide) rfl ?_
  intro p e s m args below meth c s₁ B hml hv
  obtain ⟨rfl, hsz, hP, hK, hD0, hNw, hXl, hXu, hXn, hXt⟩ := hv
  have hx := B.exec
  have hb := B.bytes
  have hr := B.returns
  have hts := atoms_spec (ws := wsL_far) B.pre
  have hown : s.vm.findClass RL = some m.cls := findClass_of_methodNamed B.named
  have hlocks := B.notSynchronized
  subst hsz
  have hD := hD0.self (sz := s.heap.size)
  generalize hAe : va_A (qZF a0 jaK jaR ja1 jcp jbc jbV ja3 jbH ja2 jbO jaq jac jbI jbl jbn jba jaa jdu jdD jaR jbs jbt jbo jbp jbk jbj jbf jbq jbE jgQ jbi jcd jbs cyI jci jbt cyI jcj a3 cyJ n3 f3) s.heap.size = A at hD hXu hXn ⊢
  have hA : ∀ q : Nat, s.heap.size ≤ q → A q := fun q h => by rw [← hAe]; exact Or.inr h
  have hS : va_S A s.heap s.heap [] := va_S.rf
  have hP : va_P (dC, dI) vwCl (qZF a0 jaK jaR ja1 jcp jbc jbV ja3 jbH ja2 jbO jaq jac jbI jbl jbn jba jaa jdu jdD jaR jbs jbt jbo jbp jbk jbj jbf jbq jbE jgQ jbi jcd jbs cyI jci jbt cyI jcj a3 cyJ n3 f3) s.heap := hP
  have hl := lv_entry ([.ref a0, .int p1, .int p2, .ref a3]) (n := 5) (nbq rfl)
  rw [lg_entry_eq]
  generalize (lg_sl ([.ref a0, .int p1, .int p2, .ref a3]) ++ List.replicate (5 - (lg_sl ([.ref a0, .int p1, .int p2, .ref a3])).length) Slot.unset).toArray = ls at hl ⊢
  have hl : lv_has ls 5 [(0, .ref a0), (1, .int p1), (2, .int p2), (3, .ref a3)] := hl
  have hY : cfY l s A := ⟨hXl, hXu, hXn, hXt⟩
  have hTb := vx_table (x := yL_far) B (hts _ qaZo)
  clear hAe
  obtain ⟨H, hH⟩ : ∃ H, H = s.heap := ⟨_, rfl⟩
  rw [← hH] at hP ⊢
  have hS : va_S A s.heap H [] := by rw [hH]; exact va_S.rf
  have hS := hS
  refine lv_aload_n hx hb (qaa quo 0 rfl) rfl (lv_at hl 3 rfl) ?_
  refine lv_iconst (v := 0) hx hb (qaa quo 1 rfl) (by decide) ?_
  refine lv_aload_n hx hb (qaa quo 2 rfl) rfl (lv_at hl 0 rfl) ?_
  refine lv_iload_n hx hb (qaa quo 3 rfl) rfl (lv_at hl 1 rfl) ?_
  refine lv_iload_n hx hb (qaa quo 4 rfl) rfl (lv_at hl 2 rfl) ?_
  obtain ⟨hCc, hPc, hDc, hFc⟩ := qac (ws' := (qJe a0 jaK jaR ja1 jcp jbc jbV ja3 jbH ja2 jbO jaq jac jbI jbl jbn jba jaa jdu jdD jaR jbs jbt jbo jbp jbk jbj jbf jbq jbE jgQ jbi jcd jbs cyI jci jbt cyI jcj)) hP hD hS hA [0, 1, 2, 3] (by decide +kernel) rfl
  refine vx_calli (vx_runV (As := [.int p1, .int p2]) (rest := [.int 0, .ref a3]) ⟨hx, hb, hml, hown, hts⟩ (qa2h l dC dI cyB cyI cyJ cyP a0 jaR jbs jbt H.size (jaK) (ja1) (jcp) (jbc) (jbV) (ja3) (jbH) (ja2) (jbO) (jaq) (jac) (jbI) (jbl) (jbn) (jba) (jaa) (jdD) (jbo) (jbp) (jbk) (jbj) (jbf) (jbq) (jgQ) (jbi) (jcd) jbE jci jcj jdu p1 p2 hw) (cwV 2 hts gL_far_X10_far rfl rfl rfl (by decide +kernel) ⟨nbq rfl, nbq rfl⟩) ⟨qav, va_recv (q := (RX10, TX10, 19)) hK hPc (ci := 10) (q0 := 0) rfl rfl, qbl hPc hK hDc hNw hY hS hFc⟩ rfl rfl hl.1 rfl (lv_room (nbq rfl)) (qaa quo 5 rfl) ⟨nbq rfl, nbq rfl⟩) hS (fun q _ h => hFc q h) hFc (fun q _ h => hFc q h) (fun en ce qx9 u t H1 locs ht hvm hpx hB hz1 hk1 hS hc9 hv9 hcl9 => ?_) (fun r2 u t H1 locs ht hvm hw hB hz1 hk1 hS => ?_)
  · obtain ⟨x1, rfl⟩ : ∃ z, z = u := ⟨_, rfl⟩
    obtain ⟨hw, hP1, hK1, hD1⟩ := hB
    rw [ht] at hP1
    obtain ⟨hP, hD⟩ := qad (wr := [(a3, .inl (cyJ, n3, .inr (.inl f3)))]) (w1 := (qJe a0 jaK jaR ja1 jcp jbc jbV ja3 jbH ja2 jbO jaq jac jbI jbl jbn jba jaa x1 jdD jaR jbs jbt jbo jbp jbk jbj jbf jbq jbE jgQ jbi jcd jbs cyI jci jbt cyI jcj)) (wn := (qZF a0 jaK jaR ja1 jcp jbc jbV ja3 jbH ja2 jbO jaq jac jbI jbl jbn jba jaa x1 jdD jaR jbs jbt jbo jbp jbk jbj jbf jbq jbE jgQ jbi jcd jbs cyI jci jbt cyI jcj a3 cyJ n3 f3)) hP hD [0, 1, 2, 3] [4] [1, 2, 3, 4, 0] hCc rfl (by decide +kernel) (by decide +kernel) (by decide +kernel) rfl hk1 hFc hP1 hD1
    generalize H1 = H at hP hS hc9 ⊢
    obtain ⟨rfl, hw⟩ := hw
    refine vx_catch (own := RL) (name := "java/util/NoSuchElementException") hown [] ⟨0, 10, 13, 31⟩ [] (hTb.trans rfl) (fun z hz => nomatch hz) (by decide) (by decide) (hts _ qaPA) (va_Nw.use rfl (hY.2.2.2.1.2 _ (List.mem_of_getElem? (i := 1) rfl))) hc9 hv9 hcl9 ?_
    refine lv_astore (lv' := [(4, .ref qx9), (0, .ref a0), (1, .int p1), (2, .int p2), (3, .ref a3)]) hx hb (qaa quo 9 rfl) hl (by decide) rfl (fun ls hl => ?_)
    refine lv_iconst (v := 1) hx hb (qaa quo 10 rfl) (by decide) ?_
    exact (W.widen (k := 2) (n := 12) (nbq rfl) (nbq rfl) (W.iret (v := 1) hx hb hr (fun t ht hW => ⟨⟨1, (x1, f3), rfl, hw, by rw [ht]; exact hP, va_K.moved hW.alike hK, hD⟩, hS.F ht⟩) hS.2.2 (qaa quo 11 rfl)))
  obtain ⟨x1, rfl⟩ : ∃ z, z = u := ⟨_, rfl⟩
  obtain ⟨hP1, hK1, hD1⟩ := hB
  rw [ht] at hP1
  obtain ⟨hP, hD⟩ := va_join (wr := [(a3, .inl (cyJ, n3, .inr (.inl f3)))]) (w1 := (qJe a0 jaK jaR ja1 jcp jbc jbV ja3 jbH ja2 jbO jaq jac jbI jbl jbn jba jaa x1 jdD jaR jbs jbt jbo jbp jbk jbj jbf jbq jbE jgQ jbi jcd jbs cyI jci jbt cyI jcj)) hP hD [0, 1, 2, 3] [4] rfl rfl (by decide) (by decide) hk1 hFc hP1 hD1
  have hP : va_P (dC, dI) vwCl (qZF a0 jaK jaR ja1 jcp jbc jbV ja3 jbH ja2 jbO jaq jac jbI jbl jbn jba jaa x1 jdD jaR jbs jbt jbo jbp jbk jbj jbf jbq jbE jgQ jbi jcd jbs cyI jci jbt cyI jcj a3 cyJ n3 f3) H1 := hP.sub [1, 2, 3, 4, 0] rfl
  have hD : va_D A (qZF a0 jaK jaR ja1 jcp jbc jbV ja3 jbH ja2 jbO jaq jac jbI jbl jbn jba jaa x1 jdD jaR jbs jbt jbo jbp jbk jbj jbf jbq jbE jgQ jbi jcd jbs cyI jci jbt cyI jcj a3 cyJ n3 f3) := hD.sub [1, 2, 3, 4, 0] (by decide) rfl
  generalize H1 = H at hP hS ⊢
  refine lv_i2l (v := r2.toInt64) hx hb (qaa quo 6 rfl) rfl ?_
  refine lv_topl (fun x3 ex3 => ?_)
  have hw := hw x3 ex3
  obtain ⟨hi9, hw⟩ := hw
  refine va_last hx hb hK hP hD hS 4 2 rfl rfl hi9 (qaa quo 7 rfl) (fun H locs hP hD hS => ?_)
  obtain ⟨f4, ef4⟩ : ∃ y : Nat → Int64, y = vp_updL f3 (0 : Int32).toNatClampNeg x3 := ⟨_, rfl⟩
  have hw := hw f4 ef4
  have hP : va_P (dC, dI) vwCl (qZF a0 jaK jaR ja1 jcp jbc jbV ja3 jbH ja2 jbO jaq jac jbI jbl jbn jba jaa x1 jdD jaR jbs jbt jbo jbp jbk jbj jbf jbq jbE jgQ jbi jcd jbs cyI jci jbt cyI jcj a3 cyJ n3 f4) H := by rw [ef4]; exact hP
  have hD : va_D A (qZF a0 jaK jaR ja1 jcp jbc jbV ja3 jbH ja2 jbO jaq jac jbI jbl jbn jba jaa x1 jdD jaR jbs jbt jbo jbp jbk jbj jbf jbq jbE jgQ jbi jcd jbs cyI jci jbt cyI jcj a3 cyJ n3 f4) := by rw [ef4]; exact hD
  refine lv_goto (tgt := 17) hx hb (qaa quo 8 rfl) (by decide) ?_
  refine lv_iconst (v := 0) hx hb (qaa quo 12 rfl) (by decide) ?_
  exact (W.widen (k := 2) (n := 12) (nbq rfl) (nbq rfl) (W.iret (v := 0) hx hb hr (fun t ht hW => ⟨⟨0, (x1, f4), rfl, hw, by rw [ht]; exact hP, va_K.moved hW.alike hK, hD⟩, hS.F ht⟩) hS.2.2 (qaa quo 13 rfl)))
set_option maxHeartbeats 4000000 in
set_option maxRecDepth 100000 in
theorem qauU {p : Program} {l : Launch} {e : Env} {s : State} {m : MethodId} {args : Array Value} {below : List Frame} {meth : Method} {c : Code} {A : Nat → Prop} (dC : Nat → ClassId) (dI : Nat → Nat → Nat) (cyB cyI cyJ cyP : ClassId) (Q : Int64 → Prop) (C0 : cfx p s m args meth c cX10_choices (some .long) wsX10_choices RX10 5 A (dC, dI) (kT cyB cyI cyJ cyP)) : ∀ (n : Nat) (H : Heap) (locs : List Loc) (ls : Array Slot) (l0 l1 : Int32) (l2 : Int64) (l4 : Int32), va_P (dC, dI) vwCl [] H → va_D A [] → va_S A s.heap H locs → lv_has ls 5 [(0, .int l0), (1, .int l1), (2, .long l2), (4, .int l4)] → qEB Q n l0 l1 l2 l4 → W p l e (headSpec wsX10_choices ({ frames := 0, cells := 0, slots := 0, locals := 0 })).room s m args below meth c H locs 0 0 (MQ below (va_Ql (fun (r : Int64) (_ : Unit) => Q r ) (cB (dC, dI) (kT cyB cyI cyJ cyP) A (fun u : Unit => ([] : va_W))) A) args s 0 0 A) (F0 m 5 ls []) := by
  obtain ⟨hx, hb, hr, hts, hown, hlocks, hml, hA, hK, hNw⟩ := id C0
  intro n
  induction n with
  | zero => intro H locs ls l0 l1 l2 l4 hP hD hS hl hw; exact False.elim hw
  | succ n ih =>
    intro H locs ls l0 l1 l2 l4 hP hD hS hl hw
    refine lv_iload hx hb (qaa qfB 4 rfl) (lv_at hl 3 rfl) ?_
    refine lv_iload_n hx hb (qaa qfB 5 rfl) rfl (lv_at hl 1 rfl) ?_
    refine lv_icmp_gt (tgt := 31) hx hb (qaa qfB 6 rfl) (by decide) (fun c1 => ?_) (fun c1 => ?_)
    · have hw := hw.1 c1
      refine lv_lload_n hx hb (qaa qs7 5 rfl) rfl (lv_at hl 2 rfl) ?_
      exact ((W.lret (v := l2) hx hb hr (fun t ht hW => ⟨⟨l2, (), rfl, hw, by rw [ht]; exact hP, va_K.moved hW.alike hK, hD⟩, hS.F ht⟩) hS.2.2 (qaa qs7 6 rfl)))
    · have hw := hw.2 c1
      refine lv_lload_n hx hb (qaa qfB 7 rfl) rfl (lv_at hl 2 rfl) ?_
      refine lv_iload_n hx hb (qaa qfB 8 rfl) rfl (lv_at hl 0 rfl) ?_
      refine lv_iload hx hb (qaa qfB 9 rfl) (lv_at hl 3 rfl) ?_
      refine lv_isub hx hb (qaa qfB 10 rfl) ?_
      refine lv_iconst (v := 1) hx hb (qaa qfB 11 rfl) (by decide) ?_
      refine lv_iadd hx hb (qaa qfB 12 rfl) ?_
      refine lv_i2l (v := ((l0 - l4) + 1).toInt64) hx hb (qaa qfB 13 rfl) rfl ?_
      refine lv_lmul hx hb (qaa qfB 14 rfl) ?_
      refine lv_iload hx hb (qaa qfB 15 rfl) (lv_at hl 3 rfl) ?_
      refine lv_i2l (v := l4.toInt64) hx hb (qaa qs7 0 rfl) rfl ?_
      obtain ⟨hz9, hw⟩ := hw
      refine lv_ldiv hx hb (qaa qs7 1 rfl) hz9 ?_
      refine lv_topl (fun x2 ex2 => ?_)
      have hw := hw x2 ex2
      refine lv_lstore_n (lv' := [(2, .long x2), (0, .int l0), (1, .int l1), (4, .int l4)]) hx hb (qaa qs7 2 rfl) rfl hl (by decide) rfl (fun ls hl => ?_)
      obtain ⟨x3, ex3⟩ : ∃ y : Int32, y = l4 + 1 := ⟨_, rfl⟩
      have hw := hw x3 ex3
      refine lv_iinc (v := x3) (lv' := [(4, .int x3), (2, .long x2), (0, .int l0), (1, .int l1)]) hx hb (qaa qs7 3 rfl) hl (k := 3) rfl (by rw [ex3]; rfl) (by decide) rfl (fun ls hl => ?_)
      refine lv_goto (tgt := 5) hx hb (qaa qs7 4 rfl) (by decide) ?_
      exact ih _ _ _ l0 l1 x2 x3 hP hD hS (lv_sub hl [2, 3, 1, 0] rfl) hw
set_option maxHeartbeats 4000000 in
set_option maxRecDepth 100000 in
theorem qaIK (l : Launch) (dC : Nat → ClassId) (dI : Nat → Nat → Nat) (cyB cyI cyJ cyP : ClassId) (sz : Nat) (p0 p1 : Int32) {Q : Int64 → Prop} (hw : qUA p0 p1 Q) : Met l yX10_choices wsX10_choices ({ frames := 0, cells := 0, slots := 0, locals := 0 }) (va_Pc [.int p0, .int p1] (cPc (dC, dI) (kT cyB cyI cyJ cyP) [] sz)) (va_Ql (fun (r : Int64) (_ : Unit) => Q r ) (cB (dC, dI) (kT cyB cyI cyJ cyP) (va_A [] sz) (fun u : Unit => ([] : va_W))) (va_A [] sz)) 0 0 (va_A [] sz) := by
  refine Met.ofW (cc := cX10_choices) (maxL := 5) (ret := (some .long)) (by decide) rfl ?_
  intro p e s m args below meth c s₁ B hml hv
  obtain ⟨rfl, hsz, hP, hK, hD0, hNw⟩ := hv
  have hx := B.exec
  have hb := B.bytes
  have hr := B.returns
  have hts := atoms_spec (ws := wsX10_choices) B.pre
  have hown : s.vm.findClass RX10 = some m.cls := findClass_of_methodNamed B.named
  have hlocks := B.notSynchronized
  subst hsz
  have hD := hD0.self (sz := s.heap.size)
  generalize hAe : va_A [] s.heap.size = A at hD ⊢
  have hA : ∀ q : Nat, s.heap.size ≤ q → A q := fun q h => by rw [← hAe]; exact Or.inr h
  have hS : va_S A s.heap s.heap [] := va_S.rf
  have hP : va_P (dC, dI) vwCl [] s.heap := hP
  have hl := lv_entry ([.int p0, .int p1]) (n := 5) (nbq rfl)
  rw [lg_entry_eq]
  generalize (lg_sl ([.int p0, .int p1]) ++ List.replicate (5 - (lg_sl ([.int p0, .int p1])).length) Slot.unset).toArray = ls at hl ⊢
  have hl : lv_has ls 5 [(0, .int p0), (1, .int p1)] := hl
  have C0 : cfx p s m _ meth c cX10_choices (some .long) wsX10_choices RX10 5 A (dC, dI) (kT cyB cyI cyJ cyP) := ⟨hx, hb, hr, hts, hown, hlocks, hml, hA, hK, hNw⟩
  clear hAe
  obtain ⟨H, hH⟩ : ∃ H, H = s.heap := ⟨_, rfl⟩
  rw [← hH] at hP ⊢
  have hS : va_S A s.heap H [] := by rw [hH]; exact va_S.rf
  have hS := hS
  refine lv_lconst (v := 1) hx hb (qaa qfB 0 rfl) (by decide) ?_
  refine lv_lstore_n (lv' := [(2, .long 1), (0, .int p0), (1, .int p1)]) hx hb (qaa qfB 1 rfl) rfl hl (by decide) rfl (fun ls hl => ?_)
  refine lv_iconst (v := 1) hx hb (qaa qfB 2 rfl) (by decide) ?_
  refine lv_istore (lv' := [(4, .int 1), (2, .long 1), (0, .int p0), (1, .int p1)]) hx hb (qaa qfB 3 rfl) hl (by decide) rfl (fun ls hl => ?_)
  obtain ⟨n9, hw⟩ := hw
  exact qauU dC dI cyB cyI cyJ cyP Q C0 n9 _ _ _ p0 p1 1 1 hP hD hS (lv_sub hl [2, 3, 1, 0] rfl) hw
set_option maxHeartbeats 4000000 in
set_option maxRecDepth 100000 in
theorem qaEN {p : Program} {l : Launch} {e : Env} {s : State} {m : MethodId} {args : Array Value} {below : List Frame} {meth : Method} {c : Code} {A : Nat → Prop} (dC : Nat → ClassId) (dI : Nat → Nat → Nat) (cyB cyI cyJ cyP : ClassId) (Q : Int64 → Prop) (C0 : cfx p s m args meth c cX10_power (some .long) wsX10_power RX10 5 A (dC, dI) (kT cyB cyI cyJ cyP)) : ∀ (n : Nat) (H : Heap) (locs : List Loc) (ls : Array Slot) (l0 l1 : Int32) (l2 : Int64) (l4 : Int32), va_P (dC, dI) vwCl [] H → va_D A [] → va_S A s.heap H locs → lv_has ls 5 [(0, .int l0), (1, .int l1), (2, .long l2), (4, .int l4)] → qKo Q n l0 l1 l2 l4 → W p l e (headSpec wsX10_power ({ frames := 0, cells := 0, slots := 0, locals := 0 })).room s m args below meth c H locs 0 0 (MQ below (va_Ql (fun (r : Int64) (_ : Unit) => Q r ) (cB (dC, dI) (kT cyB cyI cyJ cyP) A (fun u : Unit => ([] : va_W))) A) args s 0 0 A) (F0 m 5 ls []) := by
  obtain ⟨hx, hb, hr, hts, hown, hlocks, hml, hA, hK, hNw⟩ := id C0
  intro n
  induction n with
  | zero => intro H locs ls l0 l1 l2 l4 hP hD hS hl hw; exact False.elim hw
  | succ n ih =>
    intro H locs ls l0 l1 l2 l4 hP hD hS hl hw
    refine lv_iload hx hb (qaa qkv 4 rfl) (lv_at hl 3 rfl) ?_
    refine lv_iload_n hx hb (qaa qkv 5 rfl) rfl (lv_at hl 1 rfl) ?_
    refine lv_icmp_ge (tgt := 22) hx hb (qaa qkv 6 rfl) (by decide) (fun c1 => ?_) (fun c1 => ?_)
    · have hw := hw.1 c1
      refine lv_lload_n hx hb (qaa qkv 14 rfl) rfl (lv_at hl 2 rfl) ?_
      exact ((W.lret (v := l2) hx hb hr (fun t ht hW => ⟨⟨l2, (), rfl, hw, by rw [ht]; exact hP, va_K.moved hW.alike hK, hD⟩, hS.F ht⟩) hS.2.2 (qaa qkv 15 rfl)))
    · have hw := hw.2 c1
      refine lv_lload_n hx hb (qaa qkv 7 rfl) rfl (lv_at hl 2 rfl) ?_
      refine lv_iload_n hx hb (qaa qkv 8 rfl) rfl (lv_at hl 0 rfl) ?_
      refine lv_i2l (v := l0.toInt64) hx hb (qaa qkv 9 rfl) rfl ?_
      refine lv_lmul hx hb (qaa qkv 10 rfl) ?_
      refine lv_topl (fun x2 ex2 => ?_)
      have hw := hw x2 ex2
      refine lv_lstore_n (lv' := [(2, .long x2), (0, .int l0), (1, .int l1), (4, .int l4)]) hx hb (qaa qkv 11 rfl) rfl hl (by decide) rfl (fun ls hl => ?_)
      obtain ⟨x3, ex3⟩ : ∃ y : Int32, y = l4 + 1 := ⟨_, rfl⟩
      have hw := hw x3 ex3
      refine lv_iinc (v := x3) (lv' := [(4, .int x3), (2, .long x2), (0, .int l0), (1, .int l1)]) hx hb (qaa qkv 12 rfl) hl (k := 3) rfl (by rw [ex3]; rfl) (by decide) rfl (fun ls hl => ?_)
      refine lv_goto (tgt := 5) hx hb (qaa qkv 13 rfl) (by decide) ?_
      exact ih _ _ _ l0 l1 x2 x3 hP hD hS (lv_sub hl [2, 3, 1, 0] rfl) hw
set_option maxHeartbeats 4000000 in
set_option maxRecDepth 100000 in
theorem qaos (l : Launch) (dC : Nat → ClassId) (dI : Nat → Nat → Nat) (cyB cyI cyJ cyP : ClassId) (sz : Nat) (p0 p1 : Int32) {Q : Int64 → Prop} (hw : qRL p0 p1 Q) : Met l yX10_power wsX10_power ({ frames := 0, cells := 0, slots := 0, locals := 0 }) (va_Pc [.int p0, .int p1] (cPc (dC, dI) (kT cyB cyI cyJ cyP) [] sz)) (va_Ql (fun (r : Int64) (_ : Unit) => Q r ) (cB (dC, dI) (kT cyB cyI cyJ cyP) (va_A [] sz) (fun u : Unit => ([] : va_W))) (va_A [] sz)) 0 0 (va_A [] sz) := by
  refine Met.ofW (cc := cX10_power) (maxL := 5) (ret := (some .long)) (by decide) rfl ?_
  intro p e s m args below meth c s₁ B hml hv
  obtain ⟨rfl, hsz, hP, hK, hD0, hNw⟩ := hv
  have hx := B.exec
  have hb := B.bytes
  have hr := B.returns
  have hts := atoms_spec (ws := wsX10_power) B.pre
  have hown : s.vm.findClass RX10 = some m.cls := findClass_of_methodNamed B.named
  have hlocks := B.notSynchronized
  subst hsz
  have hD := hD0.self (sz := s.heap.size)
  generalize hAe : va_A [] s.heap.size = A at hD ⊢
  have hA : ∀ q : Nat, s.heap.size ≤ q → A q := fun q h => by rw [← hAe]; exact Or.inr h
  have hS : va_S A s.heap s.heap [] := va_S.rf
  have hP : va_P (dC, dI) vwCl [] s.heap := hP
  have hl := lv_entry ([.int p0, .int p1]) (n := 5) (nbq rfl)
  rw [lg_entry_eq]
  generalize (lg_sl ([.int p0, .int p1]) ++ List.replicate (5 - (lg_sl ([.int p0, .int p1])).length) Slot.unset).toArray = ls at hl ⊢
  have hl : lv_has ls 5 [(0, .int p0), (1, .int p1)] := hl
  have C0 : cfx p s m _ meth c cX10_power (some .long) wsX10_power RX10 5 A (dC, dI) (kT cyB cyI cyJ cyP) := ⟨hx, hb, hr, hts, hown, hlocks, hml, hA, hK, hNw⟩
  clear hAe
  obtain ⟨H, hH⟩ : ∃ H, H = s.heap := ⟨_, rfl⟩
  rw [← hH] at hP ⊢
  have hS : va_S A s.heap H [] := by rw [hH]; exact va_S.rf
  have hS := hS
  refine lv_lconst (v := 1) hx hb (qaa qkv 0 rfl) (by decide) ?_
  refine lv_lstore_n (lv' := [(2, .long 1), (0, .int p0), (1, .int p1)]) hx hb (qaa qkv 1 rfl) rfl hl (by decide) rfl (fun ls hl => ?_)
  refine lv_iconst (v := 0) hx hb (qaa qkv 2 rfl) (by decide) ?_
  refine lv_istore (lv' := [(4, .int 0), (2, .long 1), (0, .int p0), (1, .int p1)]) hx hb (qaa qkv 3 rfl) hl (by decide) rfl (fun ls hl => ?_)
  obtain ⟨n9, hw⟩ := hw
  exact qaEN dC dI cyB cyI cyJ cyP Q C0 n9 _ _ _ p0 p1 1 0 hP hD hS (lv_sub hl [2, 3, 1, 0] rfl) hw
set_option maxHeartbeats 4000000 in
set_option maxRecDepth 100000 in
theorem qUG {p : Program} {l : Launch} {e : Env} {s : State} {m : MethodId} {args : Array Value} {below : List Frame} {meth : Method} {c : Code} {A : Nat → Prop} (dC : Nat → ClassId) (dI : Nat → Nat → Nat) (cyB cyI cyJ cyP : ClassId) (a0 : Nat) (jaK jfR ja1 jcp jbc jbV ja3 jbH ja2 jbO jaq jac jbI jbl jbn jba jaa jbA : Value) (E : String → Int32 → Prop) (Q : Int64 → Int32 → Prop) (C0 : cfx p s m args meth c cX10_few (some .long) wsX10_few RX10 10 A (dC, dI) (kT cyB cyI cyJ cyP) ∧ cfX l s c A) : ∀ (H : Heap) (locs : List Loc) (ls : Array Slot) (jbz l4 : Int32) (l5 : Int64) (l7 : Int64), va_P (dC, dI) vwCl (qnf a0 jaK jfR ja1 jcp jbc jbV ja3 jbH ja2 jbO jaq jac jbI jbl jbn jba jaa jbA jbz) H → va_D A (qnf a0 jaK jfR ja1 jcp jbc jbV ja3 jbH ja2 jbO jaq jac jbI jbl jbn jba jaa jbA jbz) → va_S A s.heap H locs → lv_has ls 10 [(4, .int l4), (5, .long l5), (7, .long l7)] → qAu E Q jbz l4 l5 l7 → W p l e (headSpec wsX10_few ({ frames := 8, cells := 4, slots := 24, locals := 164 })).room s m args below meth c H locs 4 24 (vx_MQ below (va_Ql (fun (r : Int64) (u : Int32) => Q r u) (cB (dC, dI) (kT cyB cyI cyJ cyP) A (fun u : Int32 => ((qnf a0 jaK jfR ja1 jcp jbc jbV ja3 jbH ja2 jbO jaq jac jbI jbl jbn jba jaa jbA u) : va_W))) A) (vx_X (fun _ => True) (fun (en : String) (u : Int32) (t : State) => E en u ∧ cB (dC, dI) (kT cyB cyI cyJ cyP) A (fun u : Int32 => ((qnf a0 jaK jfR ja1 jcp jbc jbV ja3 jbH ja2 jbO jaq jac jbI jbl jbn jba jaa jbA u) : va_W)) u t) A) args s 4 24 A) (F0 m 139 ls []) := by
  obtain ⟨⟨hx, hb, hr, hts, hown, hlocks, hml, hA, hK, hNw⟩, hXs⟩ := id C0
  have hY := hXs.2
  intro H locs ls jbz l4 l5 l7 hP hD hS hl hw
  refine lv_iload hx hb (qaa qrS 3 rfl) (lv_at hl 0 rfl) ?_
  refine lv_if_ne (tgt := 149) hx hb (qaa qrS 4 rfl) (by decide) (fun c19 => ?_) (fun c19 => ?_)
  · have hw := hw.1 c19
    refine lv_lload hx hb (qaa qrS 7 rfl) (lv_at hl 2 rfl) ?_
    exact vx_ret (W.widen (k := 4) (n := 24) (nbq rfl) (nbq rfl) (W.lret (v := l7) hx hb hr (fun t ht hW => ⟨⟨l7, (jbz), rfl, hw, by rw [ht]; exact hP, va_K.moved hW.alike hK, hD⟩, hS.F ht⟩) hS.2.2 (qaa qrS 8 rfl)))
  · have hw := hw.2 c19
    refine lv_lload hx hb (qaa qrS 5 rfl) (lv_at hl 1 rfl) ?_
    refine lv_goto (tgt := 151) hx hb (qaa qrS 6 rfl) (by decide) ?_
    exact vx_ret (W.widen (k := 4) (n := 24) (nbq rfl) (nbq rfl) (W.lret (v := l5) hx hb hr (fun t ht hW => ⟨⟨l5, (jbz), rfl, hw, by rw [ht]; exact hP, va_K.moved hW.alike hK, hD⟩, hS.F ht⟩) hS.2.2 (qaa qrS 8 rfl)))
set_option maxHeartbeats 4000000 in
set_option maxRecDepth 100000 in
theorem qaQ2 {p : Program} {l : Launch} {e : Env} {s : State} {m : MethodId} {args : Array Value} {below : List Frame} {meth : Method} {c : Code} {A : Nat → Prop} (dC : Nat → ClassId) (dI : Nat → Nat → Nat) (cyB cyI cyJ cyP : ClassId) (a0 : Nat) (jaK jfR ja1 jcp jbc jbV ja3 jbH ja2 jbO jaq jac jbI jbl jbn jba jaa jbA : Value) (E : String → Int32 → Prop) (Q : Int64 → Int32 → Prop) (C0 : cfx p s m args meth c cX10_few (some .long) wsX10_few RX10 10 A (dC, dI) (kT cyB cyI cyJ cyP) ∧ cfX l s c A) : ∀ (n : Nat) (H : Heap) (locs : List Loc) (ls : Array Slot) (jbz l4 : Int32) (l5 : Int64) (l7 : Int64) (l9 : Int32), va_P (dC, dI) vwCl (qnf a0 jaK jfR ja1 jcp jbc jbV ja3 jbH ja2 jbO jaq jac jbI jbl jbn jba jaa jbA jbz) H → va_D A (qnf a0 jaK jfR ja1 jcp jbc jbV ja3 jbH ja2 jbO jaq jac jbI jbl jbn jba jaa jbA jbz) → va_S A s.heap H locs → lv_has ls 10 [(4, .int l4), (5, .long l5), (7, .long l7), (9, .int l9)] → qNR E Q n jbz l4 l5 l7 l9 → W p l e (headSpec wsX10_few ({ frames := 8, cells := 4, slots := 24, locals := 164 })).room s m args below meth c H locs 4 24 (vx_MQ below (va_Ql (fun (r : Int64) (u : Int32) => Q r u) (cB (dC, dI) (kT cyB cyI cyJ cyP) A (fun u : Int32 => ((qnf a0 jaK jfR ja1 jcp jbc jbV ja3 jbH ja2 jbO jaq jac jbI jbl jbn jba jaa jbA u) : va_W))) A) (vx_X (fun _ => True) (fun (en : String) (u : Int32) (t : State) => E en u ∧ cB (dC, dI) (kT cyB cyI cyJ cyP) A (fun u : Int32 => ((qnf a0 jaK jfR ja1 jcp jbc jbV ja3 jbH ja2 jbO jaq jac jbI jbl jbn jba jaa jbA u) : va_W)) u t) A) args s 4 24 A) (F0 m 96 ls []) := by
  obtain ⟨⟨hx, hb, hr, hts, hown, hlocks, hml, hA, hK, hNw⟩, hXs⟩ := id C0
  have hY := hXs.2
  intro n
  induction n with
  | zero => intro H locs ls jbz l4 l5 l7 l9 hP hD hS hl hw; exact False.elim hw
  | succ n ih =>
    intro H locs ls jbz l4 l5 l7 l9 hP hD hS hl hw
    refine lv_iload hx hb (qaa qmP 10 rfl) (lv_at hl 3 rfl) ?_
    refine lv_bipush (v := 48) hx hb (qaa qmP 11 rfl) (by decide) ?_
    refine lv_icmp_ge (tgt := 139) hx hb (qaa qmP 12 rfl) (by decide) (fun c13 => ?_) (fun c13 => ?_)
    · have hw := hw.1 c13
      exact qUG dC dI cyB cyI cyJ cyP a0 jaK jfR ja1 jcp jbc jbV ja3 jbH ja2 jbO jaq jac jbI jbl jbn jba jaa jbA E Q C0 _ _ _ jbz l4 l5 l7 hP hD hS (lv_sub hl [0, 1, 2] rfl) hw
    · have hw := hw.2 c13
      refine lv_lload hx hb (qaa qmP 13 rfl) (lv_at hl 1 rfl) ?_
      refine lv_lconst (v := 1) hx hb (qaa qmP 14 rfl) (by decide) ?_
      refine lv_land hx hb (qaa qmP 15 rfl) ?_
      refine lv_lconst (v := 0) hx hb (qaa qkf 0 rfl) (by decide) ?_
      refine W.lcmp hx hb (qaa qkf 1 rfl) ?_
      refine lv_if_ne (tgt := 139) hx hb (qaa qkf 2 rfl) (by decide) (fun c14 => ?_) (fun c14 => ?_)
      · have hw := hw.1 c14
        exact qUG dC dI cyB cyI cyJ cyP a0 jaK jfR ja1 jcp jbc jbV ja3 jbH ja2 jbO jaq jac jbI jbl jbn jba jaa jbA E Q C0 _ _ _ jbz l4 l5 l7 hP hD hS (lv_sub hl [0, 1, 2] rfl) hw
      · have hw := hw.2 c14
        refine lv_lload hx hb (qaa qkf 3 rfl) (lv_at hl 2 rfl) ?_
        refine lv_lconst (v := 1) hx hb (qaa qkf 4 rfl) (by decide) ?_
        refine lv_land hx hb (qaa qkf 5 rfl) ?_
        refine lv_lconst (v := 0) hx hb (qaa qkf 6 rfl) (by decide) ?_
        refine W.lcmp hx hb (qaa qkf 7 rfl) ?_
        refine lv_if_ne (tgt := 139) hx hb (qaa qkf 8 rfl) (by decide) (fun c15 => ?_) (fun c15 => ?_)
        · have hw := hw.1 c15
          exact qUG dC dI cyB cyI cyJ cyP a0 jaK jfR ja1 jcp jbc jbV ja3 jbH ja2 jbO jaq jac jbI jbl jbn jba jaa jbA E Q C0 _ _ _ jbz l4 l5 l7 hP hD hS (lv_sub hl [0, 1, 2] rfl) hw
        · have hw := hw.2 c15
          refine lv_lload hx hb (qaa qkf 9 rfl) (lv_at hl 1 rfl) ?_
          refine lv_iconst (v := 1) hx hb (qaa qkf 10 rfl) (by decide) ?_
          refine lv_lshr (v := l5 >>> ((1 : Int32).toInt64 &&& 63)) hx hb (qaa qkf 11 rfl) rfl ?_
          refine lv_topl (fun x16 ex16 => ?_)
          have hw := hw x16 ex16
          refine lv_lstore (lv' := [(5, .long x16), (4, .int l4), (7, .long l7), (9, .int l9)]) hx hb (qaa qkf 12 rfl) hl (by decide) rfl (fun ls hl => ?_)
          refine lv_lload hx hb (qaa qkf 13 rfl) (lv_at hl 2 rfl) ?_
          refine lv_iconst (v := 1) hx hb (qaa qkf 14 rfl) (by decide) ?_
          refine lv_lshr (v := l7 >>> ((1 : Int32).toInt64 &&& 63)) hx hb (qaa qkf 15 rfl) rfl ?_
          refine lv_topl (fun x17 ex17 => ?_)
          have hw := hw x17 ex17
          refine lv_lstore (lv' := [(7, .long x17), (5, .long x16), (4, .int l4), (9, .int l9)]) hx hb (qaa qrS 0 rfl) hl (by decide) rfl (fun ls hl => ?_)
          obtain ⟨x18, ex18⟩ : ∃ y : Int32, y = l9 + 1 := ⟨_, rfl⟩
          have hw := hw x18 ex18
          refine lv_iinc (v := x18) (lv' := [(9, .int x18), (7, .long x17), (5, .long x16), (4, .int l4)]) hx hb (qaa qrS 1 rfl) hl (k := 3) rfl (by rw [ex18]; rfl) (by decide) rfl (fun ls hl => ?_)
          refine lv_goto (tgt := 96) hx hb (qaa qrS 2 rfl) (by decide) ?_
          exact ih _ _ _ jbz l4 x16 x17 x18 hP hD hS (lv_sub hl [3, 2, 1, 0] rfl) hw
set_option maxHeartbeats 4000000 in
set_option maxRecDepth 100000 in
theorem qaeo {p : Program} {l : Launch} {e : Env} {s : State} {m : MethodId} {args : Array Value} {below : List Frame} {meth : Method} {c : Code} {A : Nat → Prop} (dC : Nat → ClassId) (dI : Nat → Nat → Nat) (cyB cyI cyJ cyP : ClassId) (a0 : Nat) (jaK jfR ja1 jcp jbc jbV ja3 jbH ja2 jbO jaq jac jbI jbl jbn jba jaa jbA : Value) (E : String → Int32 → Prop) (Q : Int64 → Int32 → Prop) (C0 : cfx p s m args meth c cX10_few (some .long) wsX10_few RX10 10 A (dC, dI) (kT cyB cyI cyJ cyP) ∧ cfX l s c A) : ∀ (H : Heap) (locs : List Loc) (ls : Array Slot) (jbz l1 l4 : Int32) (l5 : Int64), va_P (dC, dI) vwCl (qnf a0 jaK jfR ja1 jcp jbc jbV ja3 jbH ja2 jbO jaq jac jbI jbl jbn jba jaa jbA jbz) H → va_D A (qnf a0 jaK jfR ja1 jcp jbc jbV ja3 jbH ja2 jbO jaq jac jbI jbl jbn jba jaa jbA jbz) → va_S A s.heap H locs → lv_has ls 10 [(1, .int l1), (4, .int l4), (5, .long l5)] → qOn E Q jbz l1 l4 l5 → W p l e (headSpec wsX10_few ({ frames := 8, cells := 4, slots := 24, locals := 164 })).room s m args below meth c H locs 4 24 (vx_MQ below (va_Ql (fun (r : Int64) (u : Int32) => Q r u) (cB (dC, dI) (kT cyB cyI cyJ cyP) A (fun u : Int32 => ((qnf a0 jaK jfR ja1 jcp jbc jbV ja3 jbH ja2 jbO jaq jac jbI jbl jbn jba jaa jbA u) : va_W))) A) (vx_X (fun _ => True) (fun (en : String) (u : Int32) (t : State) => E en u ∧ cB (dC, dI) (kT cyB cyI cyJ cyP) A (fun u : Int32 => ((qnf a0 jaK jfR ja1 jcp jbc jbV ja3 jbH ja2 jbO jaq jac jbI jbl jbn jba jaa jbA u) : va_W)) u t) A) args s 4 24 A) (F0 m 86 ls []) := by
  obtain ⟨⟨hx, hb, hr, hts, hown, hlocks, hml, hA, hK, hNw⟩, hXs⟩ := id C0
  have hY := hXs.2
  intro H locs ls jbz l1 l4 l5 hP hD hS hl hw
  refine lv_lconst (v := 1) hx hb (qaa qmP 2 rfl) (by decide) ?_
  refine lv_iconst (v := 4) hx hb (qaa qmP 3 rfl) (by decide) ?_
  refine lv_iload_n hx hb (qaa qmP 4 rfl) rfl (lv_at hl 0 rfl) ?_
  refine lv_imul hx hb (qaa qmP 5 rfl) ?_
  refine lv_lshl (v := (1 : Int64) <<< ((4 * l1).toInt64 &&& 63)) hx hb (qaa qmP 6 rfl) rfl ?_
  refine lv_topl (fun x12 ex12 => ?_)
  have hw := hw x12 ex12
  refine lv_lstore (lv' := [(7, .long x12), (1, .int l1), (4, .int l4), (5, .long l5)]) hx hb (qaa qmP 7 rfl) hl (by decide) rfl (fun ls hl => ?_)
  refine lv_iconst (v := 0) hx hb (qaa qmP 8 rfl) (by decide) ?_
  refine lv_istore (lv' := [(9, .int 0), (7, .long x12), (1, .int l1), (4, .int l4), (5, .long l5)]) hx hb (qaa qmP 9 rfl) hl (by decide) rfl (fun ls hl => ?_)
  obtain ⟨n9, hw⟩ := hw
  exact qaQ2 dC dI cyB cyI cyJ cyP a0 jaK jfR ja1 jcp jbc jbV ja3 jbH ja2 jbO jaq jac jbI jbl jbn jba jaa jbA E Q C0 n9 _ _ _ jbz l4 l5 x12 0 hP hD hS (lv_sub hl [3, 4, 1, 0] rfl) hw
set_option maxHeartbeats 4000000 in
set_option maxRecDepth 100000 in
theorem qaMt {p : Program} {l : Launch} {e : Env} {s : State} {m : MethodId} {args : Array Value} {below : List Frame} {meth : Method} {c : Code} {A : Nat → Prop} (dC : Nat → ClassId) (dI : Nat → Nat → Nat) (cyB cyI cyJ cyP : ClassId) (a0 : Nat) (jaK jfR ja1 jcp jbc jbV ja3 jbH ja2 jbO jaq jac jbI jbl jbn jba jaa jbA : Value) (E : String → Int32 → Prop) (Q : Int64 → Int32 → Prop) (C0 : cfx p s m args meth c cX10_few (some .long) wsX10_few RX10 10 A (dC, dI) (kT cyB cyI cyJ cyP) ∧ cfX l s c A) : ∀ (n : Nat) (H : Heap) (locs : List Loc) (ls : Array Slot) (jbz l1 l2 l3 l4 : Int32) (l5 : Int64) (l7 : Int32), va_P (dC, dI) vwCl (qnf a0 jaK jfR ja1 jcp jbc jbV ja3 jbH ja2 jbO jaq jac jbI jbl jbn jba jaa jbA jbz) H → va_D A (qnf a0 jaK jfR ja1 jcp jbc jbV ja3 jbH ja2 jbO jaq jac jbI jbl jbn jba jaa jbA jbz) → va_S A s.heap H locs → lv_has ls 10 [(1, .int l1), (2, .int l2), (3, .int l3), (4, .int l4), (5, .long l5), (7, .int l7)] → qN5 E Q n jbz l1 l2 l3 l4 l5 l7 → W p l e (headSpec wsX10_few ({ frames := 8, cells := 4, slots := 24, locals := 164 })).room s m args below meth c H locs 4 24 (vx_MQ below (va_Ql (fun (r : Int64) (u : Int32) => Q r u) (cB (dC, dI) (kT cyB cyI cyJ cyP) A (fun u : Int32 => ((qnf a0 jaK jfR ja1 jcp jbc jbV ja3 jbH ja2 jbO jaq jac jbI jbl jbn jba jaa jbA u) : va_W))) A) (vx_X (fun _ => True) (fun (en : String) (u : Int32) (t : State) => E en u ∧ cB (dC, dI) (kT cyB cyI cyJ cyP) A (fun u : Int32 => ((qnf a0 jaK jfR ja1 jcp jbc jbV ja3 jbH ja2 jbO jaq jac jbI jbl jbn jba jaa jbA u) : va_W)) u t) A) args s 4 24 A) (F0 m 38 ls []) := by
  obtain ⟨⟨hx, hb, hr, hts, hown, hlocks, hml, hA, hK, hNw⟩, hXs⟩ := id C0
  have hY := hXs.2
  intro n
  induction n with
  | zero => intro H locs ls jbz l1 l2 l3 l4 l5 l7 hP hD hS hl hw; exact False.elim hw
  | succ n ih =>
    intro H locs ls jbz l1 l2 l3 l4 l5 l7 hP hD hS hl hw
    refine lv_iload hx hb (qaa qln 8 rfl) (lv_at hl 5 rfl) ?_
    refine lv_iload_n hx hb (qaa qln 9 rfl) rfl (lv_at hl 1 rfl) ?_
    refine lv_icmp_gt (tgt := 86) hx hb (qaa qln 10 rfl) (by decide) (fun c5 => ?_) (fun c5 => ?_)
    · have hw := hw.1 c5
      exact qaeo dC dI cyB cyI cyJ cyP a0 jaK jfR ja1 jcp jbc jbV ja3 jbH ja2 jbO jaq jac jbI jbl jbn jba jaa jbA E Q C0 _ _ _ jbz l1 l4 l5 hP hD hS (lv_sub hl [0, 3, 4] rfl) hw
    · have hw := hw.2 c5
      refine lv_iload hx hb (qaa qln 11 rfl) (lv_at hl 5 rfl) ?_
      refine lv_iload_n hx hb (qaa qln 12 rfl) rfl (lv_at hl 0 rfl) ?_
      refine lv_icmp_gt (tgt := 86) hx hb (qaa qln 13 rfl) (by decide) (fun c6 => ?_) (fun c6 => ?_)
      · have hw := hw.1 c6
        exact qaeo dC dI cyB cyI cyJ cyP a0 jaK jfR ja1 jcp jbc jbV ja3 jbH ja2 jbO jaq jac jbI jbl jbn jba jaa jbA E Q C0 _ _ _ jbz l1 l4 l5 hP hD hS (lv_sub hl [0, 3, 4] rfl) hw
      · have hw := hw.2 c6
        refine lv_lload hx hb (qaa qln 14 rfl) (lv_at hl 4 rfl) ?_
        refine lv_iload_n hx hb (qaa qln 15 rfl) rfl (lv_at hl 0 rfl) ?_
        refine lv_iload hx hb (qaa qlH 0 rfl) (lv_at hl 5 rfl) ?_
        obtain ⟨hCc, hPc, hDc, hFc⟩ := qac (ws' := []) hP hD hS hA [] (by decide +kernel) rfl
        refine va_calll (va_runS (As := [.int l1, .int l7]) (rest := [.long l5]) ⟨hx, hb, hml, hown, hts⟩ (qaIK l dC dI cyB cyI cyJ cyP H.size l1 l7 hw) (va_cwS 2 hts gX10_few_X10_choices rfl rfl rfl (by decide +kernel) ⟨nbq rfl, nbq rfl⟩) ⟨qab, qae hPc hK hDc hNw⟩ rfl rfl hl.1 rfl (lv_room (nbq rfl)) (qaa qlH 1 rfl) ⟨nbq rfl, nbq rfl⟩) hS (fun q _ h => hFc q h) hFc (fun r7 u t H1 locs ht hvm hw hB hz1 hk1 hS => ?_)
        obtain ⟨hP1, hK1, hD1⟩ := hB
        rw [ht] at hP1
        obtain ⟨hP, hD⟩ := qah (wr := (qnf a0 jaK jfR ja1 jcp jbc jbV ja3 jbH ja2 jbO jaq jac jbI jbl jbn jba jaa jbA jbz)) (w1 := []) (wn := (qnf a0 jaK jfR ja1 jcp jbc jbV ja3 jbH ja2 jbO jaq jac jbI jbl jbn jba jaa jbA jbz)) hP hD [] [0] hCc rfl (by decide +kernel) (by decide +kernel) rfl hk1 hFc hP1 hD1
        generalize H1 = H at hP hS ⊢
        refine lv_iload_n hx hb (qaa qlH 2 rfl) rfl (lv_at hl 2 rfl) ?_
        refine lv_iload hx hb (qaa qlH 3 rfl) (lv_at hl 5 rfl) ?_
        obtain ⟨hCc, hPc, hDc, hFc⟩ := qac (ws' := []) hP hD hS hA [] (by decide +kernel) rfl
        refine va_calll (va_runS (As := [.int l3, .int l7]) (rest := [.long r7, .long l5]) ⟨hx, hb, hml, hown, hts⟩ (qaos l dC dI cyB cyI cyJ cyP H.size l3 l7 hw) (va_cwS 2 hts gX10_few_X10_power rfl rfl rfl (by decide +kernel) ⟨nbq rfl, nbq rfl⟩) ⟨qab, qae hPc hK hDc hNw⟩ rfl rfl hl.1 rfl (lv_room (nbq rfl)) (qaa qlH 4 rfl) ⟨nbq rfl, nbq rfl⟩) hS (fun q _ h => hFc q h) hFc (fun r8 u t H1 locs ht hvm hw hB hz1 hk1 hS => ?_)
        obtain ⟨hP1, hK1, hD1⟩ := hB
        rw [ht] at hP1
        obtain ⟨hP, hD⟩ := qah (wr := (qnf a0 jaK jfR ja1 jcp jbc jbV ja3 jbH ja2 jbO jaq jac jbI jbl jbn jba jaa jbA jbz)) (w1 := []) (wn := (qnf a0 jaK jfR ja1 jcp jbc jbV ja3 jbH ja2 jbO jaq jac jbI jbl jbn jba jaa jbA jbz)) hP hD [] [0] hCc rfl (by decide +kernel) (by decide +kernel) rfl hk1 hFc hP1 hD1
        generalize H1 = H at hP hS ⊢
        refine lv_lmul hx hb (qaa qlH 5 rfl) ?_
        refine lv_bipush (v := 16) hx hb (qaa qlH 6 rfl) (by decide) ?_
        refine lv_iload_n hx hb (qaa qlH 7 rfl) rfl (lv_at hl 2 rfl) ?_
        refine lv_isub hx hb (qaa qlH 8 rfl) ?_
        refine lv_iload_n hx hb (qaa qlH 9 rfl) rfl (lv_at hl 0 rfl) ?_
        refine lv_iload hx hb (qaa qlH 10 rfl) (lv_at hl 5 rfl) ?_
        refine lv_isub hx hb (qaa qlH 11 rfl) ?_
        obtain ⟨hCc, hPc, hDc, hFc⟩ := qac (ws' := []) hP hD hS hA [] (by decide +kernel) rfl
        refine va_calll (va_runS (As := [.int (16 - l3), .int (l1 - l7)]) (rest := [.long (r7 * r8), .long l5]) ⟨hx, hb, hml, hown, hts⟩ (qaos l dC dI cyB cyI cyJ cyP H.size (16 - l3) (l1 - l7) hw) (va_cwS 2 hts gX10_few_X10_power rfl rfl rfl (by decide +kernel) ⟨nbq rfl, nbq rfl⟩) ⟨qab, qae hPc hK hDc hNw⟩ rfl rfl hl.1 rfl (lv_room (nbq rfl)) (qaa qlH 12 rfl) ⟨nbq rfl, nbq rfl⟩) hS (fun q _ h => hFc q h) hFc (fun r9 u t H1 locs ht hvm hw hB hz1 hk1 hS => ?_)
        obtain ⟨hP1, hK1, hD1⟩ := hB
        rw [ht] at hP1
        obtain ⟨hP, hD⟩ := qah (wr := (qnf a0 jaK jfR ja1 jcp jbc jbV ja3 jbH ja2 jbO jaq jac jbI jbl jbn jba jaa jbA jbz)) (w1 := []) (wn := (qnf a0 jaK jfR ja1 jcp jbc jbV ja3 jbH ja2 jbO jaq jac jbI jbl jbn jba jaa jbA jbz)) hP hD [] [0] hCc rfl (by decide +kernel) (by decide +kernel) rfl hk1 hFc hP1 hD1
        generalize H1 = H at hP hS ⊢
        refine lv_lmul hx hb (qaa qlH 13 rfl) ?_
        refine lv_ladd hx hb (qaa qlH 14 rfl) ?_
        refine lv_topl (fun x10 ex10 => ?_)
        have hw := hw x10 ex10
        refine lv_lstore (lv' := [(5, .long x10), (1, .int l1), (2, .int l2), (3, .int l3), (4, .int l4), (7, .int l7)]) hx hb (qaa qlH 15 rfl) hl (by decide) rfl (fun ls hl => ?_)
        obtain ⟨x11, ex11⟩ : ∃ y : Int32, y = l7 + 1 := ⟨_, rfl⟩
        have hw := hw x11 ex11
        refine lv_iinc (v := x11) (lv' := [(7, .int x11), (5, .long x10), (1, .int l1), (2, .int l2), (3, .int l3), (4, .int l4)]) hx hb (qaa qmP 0 rfl) hl (k := 5) rfl (by rw [ex11]; rfl) (by decide) rfl (fun ls hl => ?_)
        refine lv_goto (tgt := 38) hx hb (qaa qmP 1 rfl) (by decide) ?_
        exact ih _ _ _ jbz l1 l2 l3 l4 x10 x11 hP hD hS (lv_sub hl [2, 3, 4, 5, 1, 0] rfl) hw
set_option maxHeartbeats 4000000 in
set_option maxRecDepth 100000 in
theorem qa1t (l : Launch) (dC : Nat → ClassId) (dI : Nat → Nat → Nat) (cyB cyI cyJ cyP : ClassId) (a0 sz : Nat) (jaK jfR ja1 jcp jbc jbV ja3 jbH ja2 jbO jaq jac jbI jbl jbn jba jaa jbA : Value) (jbz p1 p2 p3 p4 : Int32) {E : String → Int32 → Prop} {Q : Int64 → Int32 → Prop} (hw : qaL5 jbz p1 p2 p3 p4 E Q) : vx_Met l yX10_few wsX10_few ({ frames := 8, cells := 4, slots := 24, locals := 164 }) (va_Pc [.ref a0, .int p1, .int p2, .int p3, .int p4] (cPx l (dC, dI) (kT cyB cyI cyJ cyP) (qnf a0 jaK jfR ja1 jcp jbc jbV ja3 jbH ja2 jbO jaq jac jbI jbl jbn jba jaa jbA jbz) sz)) (va_Ql (fun (r : Int64) (u : Int32) => Q r u) (cB (dC, dI) (kT cyB cyI cyJ cyP) (va_A (qnf a0 jaK jfR ja1 jcp jbc jbV ja3 jbH ja2 jbO jaq jac jbI jbl jbn jba jaa jbA jbz) sz) (fun u : Int32 => ((qnf a0 jaK jfR ja1 jcp jbc jbV ja3 jbH ja2 jbO jaq jac jbI jbl jbn jba jaa jbA u) : va_W))) (va_A (qnf a0 jaK jfR ja1 jcp jbc jbV ja3 jbH ja2 jbO jaq jac jbI jbl jbn jba jaa jbA jbz) sz)) (vx_X (fun _ => True) (fun (en : String) (u : Int32) (t : State) => E en u ∧ cB (dC, dI) (kT cyB cyI cyJ cyP) (va_A (qnf a0 jaK jfR ja1 jcp jbc jbV ja3 jbH ja2 jbO jaq jac jbI jbl jbn jba jaa jbA jbz) sz) (fun u : Int32 => ((qnf a0 jaK jfR ja1 jcp jbc jbV ja3 jbH ja2 jbO jaq jac jbI jbl jbn jba jaa jbA u) : va_W)) u t) (va_A (qnf a0 jaK jfR ja1 jcp jbc jbV ja3 jbH ja2 jbO jaq jac jbI jbl jbn jba jaa jbA jbz) sz)) 4 24 (va_A (qnf a0 jaK jfR ja1 jcp jbc jbV ja3 jbH ja2 jbO jaq jac jbI jbl jbn jba jaa jbA jbz) sz) := by
  refine vx_ofW (cc := cX10_few) (maxL := 10) (ret := (some .long)) (by decide) rfl ?_
  intro p e s m args below meth c s₁ B hml hnt hv
  obtain ⟨rfl, hsz, hP, hK, hD0, hNw, hXl, hXu, hXn, hXt⟩ := hv
  have hx := B.exec
  have hb := B.bytes
  have hr := B.returns
  have hts := atoms_spec (ws := wsX10_few) B.pre
  have hown : s.vm.findClass RX10 = some m.cls := findClass_of_methodNamed B.named
  have hlocks := B.notSynchronized
  subst hsz
  have hD := hD0.self (sz := s.heap.size)
  generalize hAe : va_A (qnf a0 jaK jfR ja1 jcp jbc jbV ja3 jbH ja2 jbO jaq jac jbI jbl jbn jba jaa jbA jbz) s.heap.size = A at hD hXu hXn ⊢
  have hA : ∀ q : Nat, s.heap.size ≤ q → A q := fun q h => by rw [← hAe]; exact Or.inr h
  have hS : va_S A s.heap s.heap [] := va_S.rf
  have hP : va_P (dC, dI) vwCl (qnf a0 jaK jfR ja1 jcp jbc jbV ja3 jbH ja2 jbO jaq jac jbI jbl jbn jba jaa jbA jbz) s.heap := hP
  have hl := lv_entry ([.ref a0, .int p1, .int p2, .int p3, .int p4]) (n := 10) (nbq rfl)
  rw [lg_entry_eq]
  generalize (lg_sl ([.ref a0, .int p1, .int p2, .int p3, .int p4]) ++ List.replicate (10 - (lg_sl ([.ref a0, .int p1, .int p2, .int p3, .int p4])).length) Slot.unset).toArray = ls at hl ⊢
  have hl : lv_has ls 10 [(0, .ref a0), (1, .int p1), (2, .int p2), (3, .int p3), (4, .int p4)] := hl
  have hY : cfY l s A := ⟨hXl, hXu, hXn, hXt⟩
  have hXs : cfX l s c A := ⟨hnt, hY⟩
  have C0 : cfx p s m _ meth c cX10_few (some .long) wsX10_few RX10 10 A (dC, dI) (kT cyB cyI cyJ cyP) ∧ cfX l s c A := ⟨⟨hx, hb, hr, hts, hown, hlocks, hml, hA, hK, hNw⟩, hXs⟩
  clear hAe
  obtain ⟨H, hH⟩ : ∃ H, H = s.heap := ⟨_, rfl⟩
  rw [← hH] at hP ⊢
  have hS : va_S A s.heap H [] := by rw [hH]; exact va_S.rf
  have hS := hS
  refine lv_aload_n hx hb (qaa qom 0 rfl) rfl (lv_at hl 0 rfl) ?_
  refine lv_iload_n hx hb (qaa qom 1 rfl) rfl (lv_at hl 1 rfl) ?_
  refine lv_iconst (v := 0) hx hb (qaa qom 2 rfl) (by decide) ?_
  refine lv_bipush (v := 12) hx hb (qaa qom 3 rfl) (by decide) ?_
  obtain ⟨hCc, hPc, hDc, hFc⟩ := qac (ws' := (qnf a0 jaK jfR ja1 jcp jbc jbV ja3 jbH ja2 jbO jaq jac jbI jbl jbn jba jaa jbA jbz)) hP hD hS hA [0] (by decide +kernel) rfl
  refine vx_callv (vx_runV (As := [.int p1, .int 0, .int 12]) (rest := []) ⟨hx, hb, hml, hown, hts⟩ (qaV l dC dI cyB cyI cyJ cyP a0 H.size (jaK) (jfR) (ja1) (jcp) (jbc) (jbV) (ja3) (jbH) (ja2) (jbO) (jaq) (jac) (jbI) (jbl) (jbn) (jba) (jaa) (jbA) jbz p1 0 12 hw) (cwV 3 hts gX10_few_X10_needWithin rfl rfl rfl (by decide +kernel) ⟨nbq rfl, nbq rfl⟩) ⟨qav, va_recv (q := (RX10, TX10, 19)) hK hPc (ci := 10) (q0 := 0) rfl rfl, qbl hPc hK hDc hNw hY hS hFc⟩ rfl rfl hl.1 rfl (lv_room (nbq rfl)) (qaa qom 4 rfl) ⟨nbq rfl, nbq rfl⟩) hS (fun q _ h => hFc q h) hFc (fun q _ h => hFc q h) (fun en ce q9 u t H1 locs ht hvm hpx hB hz1 hk1 hS hc9 hv9 hcl9 => ?_) (fun u t H1 locs ht hvm hw hB hz1 hk1 hS => ?_)
  · obtain ⟨x1, rfl⟩ : ∃ z, z = u := ⟨_, rfl⟩
    obtain ⟨hw, hP1, hK1, hD1⟩ := hB
    rw [ht] at hP1
    obtain ⟨hP, hD⟩ := qah (wr := []) (w1 := (qnf a0 jaK jfR ja1 jcp jbc jbV ja3 jbH ja2 jbO jaq jac jbI jbl jbn jba jaa jbA x1)) (wn := (qnf a0 jaK jfR ja1 jcp jbc jbV ja3 jbH ja2 jbO jaq jac jbI jbl jbn jba jaa jbA x1)) hP hD [0] [] hCc rfl (by decide +kernel) (by decide +kernel) rfl hk1 hFc hP1 hD1
    generalize H1 = H at hP hS hc9 ⊢
    exact vx_out (fun x hx9 => (hXs.1 x hx9).elim) hlocks hc9 hv9 hcl9 (fun t2 ht2 hal2 => ⟨(x1), trivial, ⟨hw, by rw [ht2]; exact hP, va_K.moved hal2 hK, hD⟩, hS.F ht2⟩) hS.2.2 (nbq rfl) (nbq rfl)
  obtain ⟨x1, rfl⟩ : ∃ z, z = u := ⟨_, rfl⟩
  obtain ⟨hP1, hK1, hD1⟩ := hB
  rw [ht] at hP1
  obtain ⟨hP, hD⟩ := qah (wr := []) (w1 := (qnf a0 jaK jfR ja1 jcp jbc jbV ja3 jbH ja2 jbO jaq jac jbI jbl jbn jba jaa jbA x1)) (wn := (qnf a0 jaK jfR ja1 jcp jbc jbV ja3 jbH ja2 jbO jaq jac jbI jbl jbn jba jaa jbA x1)) hP hD [0] [] hCc rfl (by decide +kernel) (by decide +kernel) rfl hk1 hFc hP1 hD1
  generalize H1 = H at hP hS ⊢
  refine lv_aload_n hx hb (qaa qom 5 rfl) rfl (lv_at hl 0 rfl) ?_
  refine lv_iload_n hx hb (qaa qom 6 rfl) rfl (lv_at hl 2 rfl) ?_
  refine lv_iconst (v := 0) hx hb (qaa qom 7 rfl) (by decide) ?_
  refine lv_bipush (v := 12) hx hb (qaa qom 8 rfl) (by decide) ?_
  obtain ⟨hCc, hPc, hDc, hFc⟩ := qac (ws' := (qnf a0 jaK jfR ja1 jcp jbc jbV ja3 jbH ja2 jbO jaq jac jbI jbl jbn jba jaa jbA x1)) hP hD hS hA [0] (by decide +kernel) rfl
  refine vx_callv (vx_runV (As := [.int p2, .int 0, .int 12]) (rest := []) ⟨hx, hb, hml, hown, hts⟩ (qaV l dC dI cyB cyI cyJ cyP a0 H.size (jaK) (jfR) (ja1) (jcp) (jbc) (jbV) (ja3) (jbH) (ja2) (jbO) (jaq) (jac) (jbI) (jbl) (jbn) (jba) (jaa) (jbA) x1 p2 0 12 hw) (cwV 3 hts gX10_few_X10_needWithin rfl rfl rfl (by decide +kernel) ⟨nbq rfl, nbq rfl⟩) ⟨qav, va_recv (q := (RX10, TX10, 19)) hK hPc (ci := 10) (q0 := 0) rfl rfl, qbl hPc hK hDc hNw hY hS hFc⟩ rfl rfl hl.1 rfl (lv_room (nbq rfl)) (qaa qom 9 rfl) ⟨nbq rfl, nbq rfl⟩) hS (fun q _ h => hFc q h) hFc (fun q _ h => hFc q h) (fun en ce q9 u t H1 locs ht hvm hpx hB hz1 hk1 hS hc9 hv9 hcl9 => ?_) (fun u t H1 locs ht hvm hw hB hz1 hk1 hS => ?_)
  · obtain ⟨x2, rfl⟩ : ∃ z, z = u := ⟨_, rfl⟩
    obtain ⟨hw, hP1, hK1, hD1⟩ := hB
    rw [ht] at hP1
    obtain ⟨hP, hD⟩ := qah (wr := []) (w1 := (qnf a0 jaK jfR ja1 jcp jbc jbV ja3 jbH ja2 jbO jaq jac jbI jbl jbn jba jaa jbA x2)) (wn := (qnf a0 jaK jfR ja1 jcp jbc jbV ja3 jbH ja2 jbO jaq jac jbI jbl jbn jba jaa jbA x2)) hP hD [0] [] hCc rfl (by decide +kernel) (by decide +kernel) rfl hk1 hFc hP1 hD1
    generalize H1 = H at hP hS hc9 ⊢
    exact vx_out (fun x hx9 => (hXs.1 x hx9).elim) hlocks hc9 hv9 hcl9 (fun t2 ht2 hal2 => ⟨(x2), trivial, ⟨hw, by rw [ht2]; exact hP, va_K.moved hal2 hK, hD⟩, hS.F ht2⟩) hS.2.2 (nbq rfl) (nbq rfl)
  obtain ⟨x2, rfl⟩ : ∃ z, z = u := ⟨_, rfl⟩
  obtain ⟨hP1, hK1, hD1⟩ := hB
  rw [ht] at hP1
  obtain ⟨hP, hD⟩ := qah (wr := []) (w1 := (qnf a0 jaK jfR ja1 jcp jbc jbV ja3 jbH ja2 jbO jaq jac jbI jbl jbn jba jaa jbA x2)) (wn := (qnf a0 jaK jfR ja1 jcp jbc jbV ja3 jbH ja2 jbO jaq jac jbI jbl jbn jba jaa jbA x2)) hP hD [0] [] hCc rfl (by decide +kernel) (by decide +kernel) rfl hk1 hFc hP1 hD1
  generalize H1 = H at hP hS ⊢
  refine lv_aload_n hx hb (qaa qom 10 rfl) rfl (lv_at hl 0 rfl) ?_
  refine lv_iload_n hx hb (qaa qom 11 rfl) rfl (lv_at hl 3 rfl) ?_
  refine lv_iconst (v := 0) hx hb (qaa qom 12 rfl) (by decide) ?_
  refine lv_bipush (v := 16) hx hb (qaa qom 13 rfl) (by decide) ?_
  obtain ⟨hCc, hPc, hDc, hFc⟩ := qac (ws' := (qnf a0 jaK jfR ja1 jcp jbc jbV ja3 jbH ja2 jbO jaq jac jbI jbl jbn jba jaa jbA x2)) hP hD hS hA [0] (by decide +kernel) rfl
  refine vx_callv (vx_runV (As := [.int p3, .int 0, .int 16]) (rest := []) ⟨hx, hb, hml, hown, hts⟩ (qaV l dC dI cyB cyI cyJ cyP a0 H.size (jaK) (jfR) (ja1) (jcp) (jbc) (jbV) (ja3) (jbH) (ja2) (jbO) (jaq) (jac) (jbI) (jbl) (jbn) (jba) (jaa) (jbA) x2 p3 0 16 hw) (cwV 3 hts gX10_few_X10_needWithin rfl rfl rfl (by decide +kernel) ⟨nbq rfl, nbq rfl⟩) ⟨qav, va_recv (q := (RX10, TX10, 19)) hK hPc (ci := 10) (q0 := 0) rfl rfl, qbl hPc hK hDc hNw hY hS hFc⟩ rfl rfl hl.1 rfl (lv_room (nbq rfl)) (qaa qom 14 rfl) ⟨nbq rfl, nbq rfl⟩) hS (fun q _ h => hFc q h) hFc (fun q _ h => hFc q h) (fun en ce q9 u t H1 locs ht hvm hpx hB hz1 hk1 hS hc9 hv9 hcl9 => ?_) (fun u t H1 locs ht hvm hw hB hz1 hk1 hS => ?_)
  · obtain ⟨x3, rfl⟩ : ∃ z, z = u := ⟨_, rfl⟩
    obtain ⟨hw, hP1, hK1, hD1⟩ := hB
    rw [ht] at hP1
    obtain ⟨hP, hD⟩ := qah (wr := []) (w1 := (qnf a0 jaK jfR ja1 jcp jbc jbV ja3 jbH ja2 jbO jaq jac jbI jbl jbn jba jaa jbA x3)) (wn := (qnf a0 jaK jfR ja1 jcp jbc jbV ja3 jbH ja2 jbO jaq jac jbI jbl jbn jba jaa jbA x3)) hP hD [0] [] hCc rfl (by decide +kernel) (by decide +kernel) rfl hk1 hFc hP1 hD1
    generalize H1 = H at hP hS hc9 ⊢
    exact vx_out (fun x hx9 => (hXs.1 x hx9).elim) hlocks hc9 hv9 hcl9 (fun t2 ht2 hal2 => ⟨(x3), trivial, ⟨hw, by rw [ht2]; exact hP, va_K.moved hal2 hK, hD⟩, hS.F ht2⟩) hS.2.2 (nbq rfl) (nbq rfl)
  obtain ⟨x3, rfl⟩ : ∃ z, z = u := ⟨_, rfl⟩
  obtain ⟨hP1, hK1, hD1⟩ := hB
  rw [ht] at hP1
  obtain ⟨hP, hD⟩ := qah (wr := []) (w1 := (qnf a0 jaK jfR ja1 jcp jbc jbV ja3 jbH ja2 jbO jaq jac jbI jbl jbn jba jaa jbA x3)) (wn := (qnf a0 jaK jfR ja1 jcp jbc jbV ja3 jbH ja2 jbO jaq jac jbI jbl jbn jba jaa jbA x3)) hP hD [0] [] hCc rfl (by decide +kernel) (by decide +kernel) rfl hk1 hFc hP1 hD1
  generalize H1 = H at hP hS ⊢
  refine lv_aload_n hx hb (qaa qom 15 rfl) rfl (lv_at hl 0 rfl) ?_
  refine lv_iload hx hb (qaa qln 0 rfl) (lv_at hl 4 rfl) ?_
  refine lv_iconst (v := 0) hx hb (qaa qln 1 rfl) (by decide) ?_
  refine lv_iconst (v := 1) hx hb (qaa qln 2 rfl) (by decide) ?_
  obtain ⟨hCc, hPc, hDc, hFc⟩ := qac (ws' := (qnf a0 jaK jfR ja1 jcp jbc jbV ja3 jbH ja2 jbO jaq jac jbI jbl jbn jba jaa jbA x3)) hP hD hS hA [0] (by decide +kernel) rfl
  refine vx_callv (vx_runV (As := [.int p4, .int 0, .int 1]) (rest := []) ⟨hx, hb, hml, hown, hts⟩ (qaV l dC dI cyB cyI cyJ cyP a0 H.size (jaK) (jfR) (ja1) (jcp) (jbc) (jbV) (ja3) (jbH) (ja2) (jbO) (jaq) (jac) (jbI) (jbl) (jbn) (jba) (jaa) (jbA) x3 p4 0 1 hw) (cwV 3 hts gX10_few_X10_needWithin rfl rfl rfl (by decide +kernel) ⟨nbq rfl, nbq rfl⟩) ⟨qav, va_recv (q := (RX10, TX10, 19)) hK hPc (ci := 10) (q0 := 0) rfl rfl, qbl hPc hK hDc hNw hY hS hFc⟩ rfl rfl hl.1 rfl (lv_room (nbq rfl)) (qaa qln 3 rfl) ⟨nbq rfl, nbq rfl⟩) hS (fun q _ h => hFc q h) hFc (fun q _ h => hFc q h) (fun en ce q9 u t H1 locs ht hvm hpx hB hz1 hk1 hS hc9 hv9 hcl9 => ?_) (fun u t H1 locs ht hvm hw hB hz1 hk1 hS => ?_)
  · obtain ⟨x4, rfl⟩ : ∃ z, z = u := ⟨_, rfl⟩
    obtain ⟨hw, hP1, hK1, hD1⟩ := hB
    rw [ht] at hP1
    obtain ⟨hP, hD⟩ := qah (wr := []) (w1 := (qnf a0 jaK jfR ja1 jcp jbc jbV ja3 jbH ja2 jbO jaq jac jbI jbl jbn jba jaa jbA x4)) (wn := (qnf a0 jaK jfR ja1 jcp jbc jbV ja3 jbH ja2 jbO jaq jac jbI jbl jbn jba jaa jbA x4)) hP hD [0] [] hCc rfl (by decide +kernel) (by decide +kernel) rfl hk1 hFc hP1 hD1
    generalize H1 = H at hP hS hc9 ⊢
    exact vx_out (fun x hx9 => (hXs.1 x hx9).elim) hlocks hc9 hv9 hcl9 (fun t2 ht2 hal2 => ⟨(x4), trivial, ⟨hw, by rw [ht2]; exact hP, va_K.moved hal2 hK, hD⟩, hS.F ht2⟩) hS.2.2 (nbq rfl) (nbq rfl)
  obtain ⟨x4, rfl⟩ : ∃ z, z = u := ⟨_, rfl⟩
  obtain ⟨hP1, hK1, hD1⟩ := hB
  rw [ht] at hP1
  obtain ⟨hP, hD⟩ := qah (wr := []) (w1 := (qnf a0 jaK jfR ja1 jcp jbc jbV ja3 jbH ja2 jbO jaq jac jbI jbl jbn jba jaa jbA x4)) (wn := (qnf a0 jaK jfR ja1 jcp jbc jbV ja3 jbH ja2 jbO jaq jac jbI jbl jbn jba jaa jbA x4)) hP hD [0] [] hCc rfl (by decide +kernel) (by decide +kernel) rfl hk1 hFc hP1 hD1
  generalize H1 = H at hP hS ⊢
  refine lv_lconst (v := 0) hx hb (qaa qln 4 rfl) (by decide) ?_
  refine lv_lstore (lv' := [(5, .long 0), (0, .ref a0), (1, .int p1), (2, .int p2), (3, .int p3), (4, .int p4)]) hx hb (qaa qln 5 rfl) hl (by decide) rfl (fun ls hl => ?_)
  refine lv_iconst (v := 0) hx hb (qaa qln 6 rfl) (by decide) ?_
  refine lv_istore (lv' := [(7, .int 0), (5, .long 0), (0, .ref a0), (1, .int p1), (2, .int p2), (3, .int p3), (4, .int p4)]) hx hb (qaa qln 7 rfl) hl (by decide) rfl (fun ls hl => ?_)
  obtain ⟨n9, hw⟩ := hw
  exact qaMt dC dI cyB cyI cyJ cyP a0 jaK jfR ja1 jcp jbc jbV ja3 jbH ja2 jbO jaq jac jbI jbl jbn jba jaa jbA E Q C0 n9 _ _ _ x4 p1 p2 p3 p4 0 0 hP hD hS (lv_sub hl [3, 4, 5, 6, 1, 0] rfl) hw
theorem qaSO : (.classLink RL 13 "java/lang/IllegalArgumentException" : Cond) ∈ wsL_few := qaNt 595 (by decide +kernel)
theorem qaYW : (.codeWith yL_few cL_few 7 (some .int) [(0, 13, 16, 13)] : Cond) ∈ wsL_few := qaNt 3725 (by decide +kernel)
set_option maxHeartbeats 4000000 in
set_option maxRecDepth 100000 in
theorem qbbV (l : Launch) (dC : Nat → ClassId) (dI : Nat → Nat → Nat) (cyB cyI cyJ cyP : ClassId) (a0 a5 sz : Nat) (jaK jfR ja1 jcp jbc jbV ja3 jbH ja2 jbO jaq jac jbI jbl jbn jba jaa jbA : Value) (n5 : Nat) (jbz : Int32) (f5 : Nat → Int64) (p1 p2 p3 p4 : Int32) {Q : Int32 → Int32 → (Nat → Int64) → Prop} (hw : qaOB n5 jbz f5 p1 p2 p3 p4 Q) : Met l yL_few wsL_few ({ frames := 9, cells := 4, slots := 24, locals := 193 }) (va_Pc [.ref a0, .int p1, .int p2, .int p3, .int p4, .ref a5] (cPx l (dC, dI) (kT cyB cyI cyJ cyP) (qYW a0 jaK jfR ja1 jcp jbc jbV ja3 jbH ja2 jbO jaq jac jbI jbl jbn jba jaa jbA jbz a5 cyJ n5 f5) sz)) (va_Qi (fun (r : Int32) (u : Int32 × (Nat → Int64)) => Q r u.1 u.2) (cB (dC, dI) (kT cyB cyI cyJ cyP) (va_A (qYW a0 jaK jfR ja1 jcp jbc jbV ja3 jbH ja2 jbO jaq jac jbI jbl jbn jba jaa jbA jbz a5 cyJ n5 f5) sz) (fun u : Int32 × (Nat → Int64) => ((qYW a0 jaK jfR ja1 jcp jbc jbV ja3 jbH ja2 jbO jaq jac jbI jbl jbn jba jaa jbA u.1 a5 cyJ n5 u.2) : va_W))) (va_A (qYW a0 jaK jfR ja1 jcp jbc jbV ja3 jbH ja2 jbO jaq jac jbI jbl jbn jba jaa jbA jbz a5 cyJ n5 f5) sz)) 4 24 (va_A (qYW a0 jaK jfR ja1 jcp jbc jbV ja3 jbH ja2 jbO jaq jac jbI jbl jbn jba jaa jbA jbz a5 cyJ n5 f5) sz) := by
  refine va_MetW (cc := cL_few) (maxL := 7) (ret := (some .int)) (by decide) rfl ?_
  intro p e s m args below meth c s₁ B hml hv
  obtain ⟨rfl, hsz, hP, hK, hD0, hNw, hXl, hXu, hXn, hXt⟩ := hv
  have hx := B.exec
  have hb := B.bytes
  have hr := B.returns
  have hts := atoms_spec (ws := wsL_few) B.pre
  have hown : s.vm.findClass RL = some m.cls := findClass_of_methodNamed B.named
  have hlocks := B.notSynchronized
  subst hsz
  have hD := hD0.self (sz := s.heap.size)
  generalize hAe : va_A (qYW a0 jaK jfR ja1 jcp jbc jbV ja3 jbH ja2 jbO jaq jac jbI jbl jbn jba jaa jbA jbz a5 cyJ n5 f5) s.heap.size = A at hD hXu hXn ⊢
  have hA : ∀ q : Nat, s.heap.size ≤ q → A q := fun q h => by rw [← hAe]; exact Or.inr h
  have hS : va_S A s.heap s.heap [] := va_S.rf
  have hP : va_P (dC, dI) vwCl (qYW a0 jaK jfR ja1 jcp jbc jbV ja3 jbH ja2 jbO jaq jac jbI jbl jbn jba jaa jbA jbz a5 cyJ n5 f5) s.heap := hP
  have hl := lv_entry ([.ref a0, .int p1, .int p2, .int p3, .int p4, .ref a5]) (n := 7) (nbq rfl)
  rw [lg_entry_eq]
  generalize (lg_sl ([.ref a0, .int p1, .int p2, .int p3, .int p4, .ref a5]) ++ List.replicate (7 - (lg_sl ([.ref a0, .int p1, .int p2, .int p3, .int p4, .ref a5])).length) Slot.unset).toArray = ls at hl ⊢
  have hl : lv_has ls 7 [(0, .ref a0), (1, .int p1), (2, .int p2), (3, .int p3), (4, .int p4), (5, .ref a5)] := hl
  have hY : cfY l s A := ⟨hXl, hXu, hXn, hXt⟩
  have hTb := vx_table (x := yL_few) B (hts _ qaYW)
  clear hAe
  obtain ⟨H, hH⟩ : ∃ H, H = s.heap := ⟨_, rfl⟩
  rw [← hH] at hP ⊢
  have hS : va_S A s.heap H [] := by rw [hH]; exact va_S.rf
  have hS := hS
  refine lv_aload hx hb (qaa qtv 0 rfl) (lv_at hl 5 rfl) ?_
  refine lv_iconst (v := 0) hx hb (qaa qtv 1 rfl) (by decide) ?_
  refine lv_aload_n hx hb (qaa qtv 2 rfl) rfl (lv_at hl 0 rfl) ?_
  refine lv_iload_n hx hb (qaa qtv 3 rfl) rfl (lv_at hl 1 rfl) ?_
  refine lv_iload_n hx hb (qaa qtv 4 rfl) rfl (lv_at hl 2 rfl) ?_
  refine lv_iload_n hx hb (qaa qtv 5 rfl) rfl (lv_at hl 3 rfl) ?_
  refine lv_iload hx hb (qaa qtv 6 rfl) (lv_at hl 4 rfl) ?_
  obtain ⟨hCc, hPc, hDc, hFc⟩ := qac (ws' := (qnf a0 jaK jfR ja1 jcp jbc jbV ja3 jbH ja2 jbO jaq jac jbI jbl jbn jba jaa jbA jbz)) hP hD hS hA [0] (by decide +kernel) rfl
  refine vx_calll (vx_runV (As := [.int p1, .int p2, .int p3, .int p4]) (rest := [.int 0, .ref a5]) ⟨hx, hb, hml, hown, hts⟩ (qa1t l dC dI cyB cyI cyJ cyP a0 H.size (jaK) (jfR) (ja1) (jcp) (jbc) (jbV) (ja3) (jbH) (ja2) (jbO) (jaq) (jac) (jbI) (jbl) (jbn) (jba) (jaa) (jbA) jbz p1 p2 p3 p4 hw) (cwV 4 hts gL_few_X10_few rfl rfl rfl (by decide +kernel) ⟨nbq rfl, nbq rfl⟩) ⟨qav, va_recv (q := (RX10, TX10, 19)) hK hPc (ci := 10) (q0 := 0) rfl rfl, qbl hPc hK hDc hNw hY hS hFc⟩ rfl rfl hl.1 rfl (lv_room (nbq rfl)) (qaa qtv 7 rfl) ⟨nbq rfl, nbq rfl⟩) hS (fun q _ h => hFc q h) hFc (fun q _ h => hFc q h) (fun en ce qx9 u t H1 locs ht hvm hpx hB hz1 hk1 hS hc9 hv9 hcl9 => ?_) (fun r2 u t H1 locs ht hvm hw hB hz1 hk1 hS => ?_)
  · obtain ⟨x1, rfl⟩ : ∃ z, z = u := ⟨_, rfl⟩
    obtain ⟨hw, hP1, hK1, hD1⟩ := hB
    rw [ht] at hP1
    obtain ⟨hP, hD⟩ := qad (wr := [(a5, .inl (cyJ, n5, .inr (.inl f5)))]) (w1 := (qnf a0 jaK jfR ja1 jcp jbc jbV ja3 jbH ja2 jbO jaq jac jbI jbl jbn jba jaa jbA x1)) (wn := (qYW a0 jaK jfR ja1 jcp jbc jbV ja3 jbH ja2 jbO jaq jac jbI jbl jbn jba jaa jbA x1 a5 cyJ n5 f5)) hP hD [0] [1] [1, 0] hCc rfl (by decide +kernel) (by decide +kernel) (by decide +kernel) rfl hk1 hFc hP1 hD1
    generalize H1 = H at hP hS hc9 ⊢
    obtain ⟨rfl, hw⟩ := hw
    refine vx_catch (own := RL) (name := "java/lang/IllegalArgumentException") hown [] ⟨0, 13, 16, 13⟩ [] (hTb.trans rfl) (fun z hz => nomatch hz) (by decide) (by decide) (hts _ qaSO) (va_Nw.use rfl (hY.2.2.2.1.2 _ (List.mem_of_getElem? (i := 0) rfl))) hc9 hv9 hcl9 ?_
    refine lv_astore (lv' := [(6, .ref qx9), (0, .ref a0), (1, .int p1), (2, .int p2), (3, .int p3), (4, .int p4), (5, .ref a5)]) hx hb (qaa qtv 10 rfl) hl (by decide) rfl (fun ls hl => ?_)
    refine lv_iconst (v := 1) hx hb (qaa qtv 11 rfl) (by decide) ?_
    exact (W.widen (k := 4) (n := 24) (nbq rfl) (nbq rfl) (W.iret (v := 1) hx hb hr (fun t ht hW => ⟨⟨1, (x1, f5), rfl, hw, by rw [ht]; exact hP, va_K.moved hW.alike hK, hD⟩, hS.F ht⟩) hS.2.2 (qaa qtv 12 rfl)))
  obtain ⟨x1, rfl⟩ : ∃ z, z = u := ⟨_, rfl⟩
  obtain ⟨hP1, hK1, hD1⟩ := hB
  rw [ht] at hP1
  obtain ⟨hP, hD⟩ := va_join (wr := [(a5, .inl (cyJ, n5, .inr (.inl f5)))]) (w1 := (qnf a0 jaK jfR ja1 jcp jbc jbV ja3 jbH ja2 jbO jaq jac jbI jbl jbn jba jaa jbA x1)) hP hD [0] [1] rfl rfl (by decide) (by decide) hk1 hFc hP1 hD1
  have hP : va_P (dC, dI) vwCl (qYW a0 jaK jfR ja1 jcp jbc jbV ja3 jbH ja2 jbO jaq jac jbI jbl jbn jba jaa jbA x1 a5 cyJ n5 f5) H1 := hP.sub [1, 0] rfl
  have hD : va_D A (qYW a0 jaK jfR ja1 jcp jbc jbV ja3 jbH ja2 jbO jaq jac jbI jbl jbn jba jaa jbA x1 a5 cyJ n5 f5) := hD.sub [1, 0] (by decide) rfl
  generalize H1 = H at hP hS ⊢
  obtain ⟨hi9, hw⟩ := hw
  refine va_last hx hb hK hP hD hS 1 2 rfl rfl hi9 (qaa qtv 8 rfl) (fun H locs hP hD hS => ?_)
  obtain ⟨f3, ef3⟩ : ∃ y : Nat → Int64, y = vp_updL f5 (0 : Int32).toNatClampNeg r2 := ⟨_, rfl⟩
  have hw := hw f3 ef3
  have hP : va_P (dC, dI) vwCl (qYW a0 jaK jfR ja1 jcp jbc jbV ja3 jbH ja2 jbO jaq jac jbI jbl jbn jba jaa jbA x1 a5 cyJ n5 f3) H := by rw [ef3]; exact hP
  have hD : va_D A (qYW a0 jaK jfR ja1 jcp jbc jbV ja3 jbH ja2 jbO jaq jac jbI jbl jbn jba jaa jbA x1 a5 cyJ n5 f3) := by rw [ef3]; exact hD
  refine lv_goto (tgt := 20) hx hb (qaa qtv 9 rfl) (by decide) ?_
  refine lv_iconst (v := 0) hx hb (qaa qtv 13 rfl) (by decide) ?_
  exact (W.widen (k := 4) (n := 24) (nbq rfl) (nbq rfl) (W.iret (v := 0) hx hb hr (fun t ht hW => ⟨⟨0, (x1, f3), rfl, hw, by rw [ht]; exact hP, va_K.moved hW.alike hK, hD⟩, hS.F ht⟩) hS.2.2 (qaa qtv 14 rfl)))
theorem qQg : ∀ w ∈ u_ws RX3 TX3 11, w ∈ wsX3_seatedThen := uiM qP9 euX3 (by decide +kernel)
theorem q6y : (.fieldLink RX3 15 "MarchHares$Fitting" "sits" "[I" : Cond) ∈ wsX3_seatedThen := qP9 391 (by decide +kernel)
theorem qab7 : (.fieldLink RX3 9 "MarchHares$Fitting" "seated" "[I" : Cond) ∈ wsX3_seatedThen := qP9 390 (by decide +kernel)
set_option maxHeartbeats 4000000 in
set_option maxRecDepth 100000 in
theorem qPb {p : Program} {l : Launch} {e : Env} {s : State} {m : MethodId} {args : Array Value} {below : List Frame} {meth : Method} {c : Code} {A : Nat → Prop} (dC : Nat → ClassId) (dI : Nat → Nat → Nat) (cyB cyI cyJ cyP : ClassId) (a0 jhY ji2 : Nat) (jlU jmo ja4 ja0 jaO jmb jmc jkn jjZ : Value) (jiL jjH : NI) (Q : Int32 → Prop) (C0 : cfx p s m args meth c cX3_seatedThen (some .int) wsX3_seatedThen RX3 4 A (dC, dI) (kT cyB cyI cyJ cyP)) : ∀ (H : Heap) (locs : List Loc) (ls : Array Slot) (l1 l3 s0 s1 : Int32), va_P (dC, dI) vwCl (q7O a0 jhY ji2 jlU jmo ja4 ja0 jaO jmb jmc jkn jjZ jhY cyI jiL ji2 cyI jjH) H → va_D A (q7O a0 jhY ji2 jlU jmo ja4 ja0 jaO jmb jmc jkn jjZ jhY cyI jiL ji2 cyI jjH) → va_S A s.heap H locs → lv_has ls 4 [(1, .int l1), (3, .int l3)] → qFT jiL jjH Q l1 l3 s0 s1 → W p l e (headSpec wsX3_seatedThen ({ frames := 0, cells := 0, slots := 0, locals := 0 })).room s m args below meth c H locs 0 0 (MQ below (va_Qi (fun (r : Int32) (_ : Unit) => Q r ) (cB (dC, dI) (kT cyB cyI cyJ cyP) A (fun u : Unit => ((q7O a0 jhY ji2 jlU jmo ja4 ja0 jaO jmb jmc jkn jjZ jhY cyI jiL ji2 cyI jjH) : va_W))) A) args s 0 0 A) (F0 m 21 ls [.int s1, .int s0]) := by
  obtain ⟨hx, hb, hr, hts, hown, hlocks, hml, hA, hK, hNw⟩ := id C0
  intro H locs ls l1 l3 s0 s1 hP hD hS hl hw
  refine lv_isub hx hb (qaa qdg 13 rfl) ?_
  refine lv_iload_n hx hb (qaa qdg 14 rfl) rfl (lv_at hl 1 rfl) ?_
  refine lv_iload_n hx hb (qaa qdg 15 rfl) rfl (lv_at hl 0 rfl) ?_
  refine lv_icmp_ne (tgt := 31) hx hb (qaa qpf 0 rfl) (by decide) (fun c4 => ?_) (fun c4 => ?_)
  · have hw := hw.1 c4
    refine lv_iconst (v := 0) hx hb (qaa qpf 3 rfl) (by decide) ?_
    refine lv_iadd hx hb (qaa qpf 4 rfl) ?_
    exact ((W.iret (v := ((s0 - s1) + 0)) hx hb hr (fun t ht hW => ⟨⟨((s0 - s1) + 0), (), rfl, hw, by rw [ht]; exact hP, va_K.moved hW.alike hK, hD⟩, hS.F ht⟩) hS.2.2 (qaa qpf 5 rfl)))
  · have hw := hw.2 c4
    refine lv_iconst (v := 1) hx hb (qaa qpf 1 rfl) (by decide) ?_
    refine lv_goto (tgt := 32) hx hb (qaa qpf 2 rfl) (by decide) ?_
    refine lv_iadd hx hb (qaa qpf 4 rfl) ?_
    exact ((W.iret (v := ((s0 - s1) + 1)) hx hb hr (fun t ht hW => ⟨⟨((s0 - s1) + 1), (), rfl, hw, by rw [ht]; exact hP, va_K.moved hW.alike hK, hD⟩, hS.F ht⟩) hS.2.2 (qaa qpf 5 rfl)))
set_option maxHeartbeats 4000000 in
set_option maxRecDepth 100000 in
theorem qY7 (l : Launch) (dC : Nat → ClassId) (dI : Nat → Nat → Nat) (cyB cyI cyJ cyP : ClassId) (a0 jhY ji2 sz : Nat) (jlU jmo ja4 ja0 jaO jmb jmc jkn jjZ : Value) (jiL jjH : NI) (p1 p2 p3 : Int32) {Q : Int32 → Prop} (hw : qEL jiL jjH p1 p2 p3 Q) : Met l yX3_seatedThen wsX3_seatedThen ({ frames := 0, cells := 0, slots := 0, locals := 0 }) (va_Pc [.ref a0, .int p1, .int p2, .int p3] (cPc (dC, dI) (kT cyB cyI cyJ cyP) (q7O a0 jhY ji2 jlU jmo ja4 ja0 jaO jmb jmc jkn jjZ jhY cyI jiL ji2 cyI jjH) sz)) (va_Qi (fun (r : Int32) (_ : Unit) => Q r ) (cB (dC, dI) (kT cyB cyI cyJ cyP) (va_A (q7O a0 jhY ji2 jlU jmo ja4 ja0 jaO jmb jmc jkn jjZ jhY cyI jiL ji2 cyI jjH) sz) (fun u : Unit => ((q7O a0 jhY ji2 jlU jmo ja4 ja0 jaO jmb jmc jkn jjZ jhY cyI jiL ji2 cyI jjH) : va_W))) (va_A (q7O a0 jhY ji2 jlU jmo ja4 ja0 jaO jmb jmc jkn jjZ jhY cyI jiL ji2 cyI jjH) sz)) 0 0 (va_A (q7O a0 jhY ji2 jlU jmo ja4 ja0 jaO jmb jmc jkn jjZ jhY cyI jiL ji2 cyI jjH) sz) := by
  refine Met.ofW (cc := cX3_seatedThen) (maxL := 4) (ret := (some .int)) (by decide) rfl ?_
  intro p e s m args below meth c s₁ B hml hv
  obtain ⟨rfl, hsz, hP, hK, hD0, hNw⟩ := hv
  have hx := B.exec
  have hb := B.bytes
  have hr := B.returns
  have hts := atoms_spec (ws := wsX3_seatedThen) B.pre
  have hown : s.vm.findClass RX3 = some m.cls := findClass_of_methodNamed B.named
  have hlocks := B.notSynchronized
  subst hsz
  have hD := hD0.self (sz := s.heap.size)
  generalize hAe : va_A (q7O a0 jhY ji2 jlU jmo ja4 ja0 jaO jmb jmc jkn jjZ jhY cyI jiL ji2 cyI jjH) s.heap.size = A at hD ⊢
  have hA : ∀ q : Nat, s.heap.size ≤ q → A q := fun q h => by rw [← hAe]; exact Or.inr h
  have hS : va_S A s.heap s.heap [] := va_S.rf
  have hP : va_P (dC, dI) vwCl (q7O a0 jhY ji2 jlU jmo ja4 ja0 jaO jmb jmc jkn jjZ jhY cyI jiL ji2 cyI jjH) s.heap := hP
  have hl := lv_entry ([.ref a0, .int p1, .int p2, .int p3]) (n := 4) (nbq rfl)
  rw [lg_entry_eq]
  generalize (lg_sl ([.ref a0, .int p1, .int p2, .int p3]) ++ List.replicate (4 - (lg_sl ([.ref a0, .int p1, .int p2, .int p3])).length) Slot.unset).toArray = ls at hl ⊢
  have hl : lv_has ls 4 [(0, .ref a0), (1, .int p1), (2, .int p2), (3, .int p3)] := hl
  have C0 : cfx p s m _ meth c cX3_seatedThen (some .int) wsX3_seatedThen RX3 4 A (dC, dI) (kT cyB cyI cyJ cyP) := ⟨hx, hb, hr, hts, hown, hlocks, hml, hA, hK, hNw⟩
  clear hAe
  obtain ⟨H, hH⟩ : ∃ H, H = s.heap := ⟨_, rfl⟩
  rw [← hH] at hP ⊢
  have hS : va_S A s.heap H [] := by rw [hH]; exact va_S.rf
  have hS := hS
  refine lv_aload_n hx hb (qaa qdg 0 rfl) rfl (lv_at hl 0 rfl) ?_
  refine va_get (D := (dC, dI)) (ci := 3) (v := .ref jhY) (C := RX3) (T := TX3) (N := 11) hx hb hts qQg hown hK hP 0 rfl rfl 0 (by decide) (hts _ qab7) (fun _ h9 => h9) rfl (qaa qdg 1 rfl) ?_
  refine lv_iload_n hx hb (qaa qdg 2 rfl) rfl (lv_at hl 1 rfl) ?_
  obtain ⟨hi9, hw⟩ := hw
  refine va_iald hx hb hK hP 1 1 rfl rfl hi9 (qaa qdg 3 rfl) ?_
  refine lv_topi (fun x1 ex1 => ?_)
  have hw := hw x1 ex1
  refine lv_aload_n hx hb (qaa qdg 4 rfl) rfl (lv_at hl 0 rfl) ?_
  refine va_get (D := (dC, dI)) (ci := 3) (v := .ref ji2) (C := RX3) (T := TX3) (N := 11) hx hb hts qQg hown hK hP 0 rfl rfl 1 (by decide) (hts _ q6y) (fun _ h9 => h9) rfl (qaa qdg 5 rfl) ?_
  refine lv_iload_n hx hb (qaa qdg 6 rfl) rfl (lv_at hl 2 rfl) ?_
  obtain ⟨hi9, hw⟩ := hw
  refine va_iald hx hb hK hP 2 1 rfl rfl hi9 (qaa qdg 7 rfl) ?_
  refine lv_topi (fun x2 ex2 => ?_)
  have hw := hw x2 ex2
  refine lv_iload_n hx hb (qaa qdg 8 rfl) rfl (lv_at hl 1 rfl) ?_
  refine lv_icmp_ne (tgt := 20) hx hb (qaa qdg 9 rfl) (by decide) (fun c3 => ?_) (fun c3 => ?_)
  · have hw := hw.1 c3
    refine lv_iconst (v := 0) hx hb (qaa qdg 12 rfl) (by decide) ?_
    exact qPb dC dI cyB cyI cyJ cyP a0 jhY ji2 jlU jmo ja4 ja0 jaO jmb jmc jkn jjZ jiL jjH Q C0 _ _ _ p1 p3 x1 0 hP hD hS (lv_sub hl [1, 3] rfl) hw
  · have hw := hw.2 c3
    refine lv_iconst (v := 1) hx hb (qaa qdg 10 rfl) (by decide) ?_
    refine lv_goto (tgt := 21) hx hb (qaa qdg 11 rfl) (by decide) ?_
    exact qPb dC dI cyB cyI cyJ cyP a0 jhY ji2 jlU jmo ja4 ja0 jaO jmb jmc jkn jjZ jiL jjH Q C0 _ _ _ p1 p3 x1 1 hP hD hS (lv_sub hl [1, 3] rfl) hw
theorem q1a : ∀ w ∈ u_ws RX0 TX0 2, w ∈ wsX0_agrees := uiM qaAK euX0 (by decide +kernel)
theorem q33 : (.fieldLink RX0 9 "MarchHares$Book" "seen" "[I" : Cond) ∈ wsX0_agrees := qaAK 257 (by decide +kernel)
set_option maxHeartbeats 4000000 in
set_option maxRecDepth 100000 in
theorem q3V {p : Program} {l : Launch} {e : Env} {s : State} {m : MethodId} {args : Array Value} {below : List Frame} {meth : Method} {c : Code} {A : Nat → Prop} (dC : Nat → ClassId) (dI : Nat → Nat → Nat) (cyB cyI cyJ cyP : ClassId) (a0 jjj : Nat) (jmb : Value) (jkG : NI) (Q : Int32 → Prop) (C0 : cfx p s m args meth c cX0_agrees (some .boolean) wsX0_agrees RX0 3 A (dC, dI) (kT cyB cyI cyJ cyP)) : ∀ (H : Heap) (locs : List Loc) (ls : Array Slot) , va_P (dC, dI) vwCl (qV8 a0 jjj jmb jjj cyI jkG) H → va_D A (qV8 a0 jjj jmb jjj cyI jkG) → va_S A s.heap H locs → lv_has ls 3 [] → qRn jkG Q → W p l e (headSpec wsX0_agrees ({ frames := 0, cells := 0, slots := 0, locals := 0 })).room s m args below meth c H locs 0 0 (MQ below (va_Qi (fun (r : Int32) (_ : Unit) => Q r ) (cB (dC, dI) (kT cyB cyI cyJ cyP) A (fun u : Unit => ((qV8 a0 jjj jmb jjj cyI jkG) : va_W))) A) args s 0 0 A) (F0 m 20 ls []) := by
  obtain ⟨hx, hb, hr, hts, hown, hlocks, hml, hA, hK, hNw⟩ := id C0
  intro H locs ls hP hD hS hl hw
  refine lv_iconst (v := 1) hx hb (qaa qic 12 rfl) (by decide) ?_
  refine lv_goto (tgt := 25) hx hb (qaa qic 13 rfl) (by decide) ?_
  exact ((W.zret (v := 1) hx hb hr rfl (fun t ht hW => ⟨⟨1, (), rfl, hw, by rw [ht]; exact hP, va_K.moved hW.alike hK, hD⟩, hS.F ht⟩) hS.2.2 (qaa qic 15 rfl)))
set_option maxHeartbeats 4000000 in
set_option maxRecDepth 100000 in
theorem qaTi (l : Launch) (dC : Nat → ClassId) (dI : Nat → Nat → Nat) (cyB cyI cyJ cyP : ClassId) (a0 jjj sz : Nat) (jmb : Value) (jkG : NI) (p1 p2 : Int32) {Q : Int32 → Prop} (hw : q3B jkG p1 p2 Q) : Met l yX0_agrees wsX0_agrees ({ frames := 0, cells := 0, slots := 0, locals := 0 }) (va_Pc [.ref a0, .int p1, .int p2] (cPc (dC, dI) (kT cyB cyI cyJ cyP) (qV8 a0 jjj jmb jjj cyI jkG) sz)) (va_Qi (fun (r : Int32) (_ : Unit) => Q r ) (cB (dC, dI) (kT cyB cyI cyJ cyP) (va_A (qV8 a0 jjj jmb jjj cyI jkG) sz) (fun u : Unit => ((qV8 a0 jjj jmb jjj cyI jkG) : va_W))) (va_A (qV8 a0 jjj jmb jjj cyI jkG) sz)) 0 0 (va_A (qV8 a0 jjj jmb jjj cyI jkG) sz) := by
  refine Met.ofW (cc := cX0_agrees) (maxL := 3) (ret := (some .boolean)) (by decide) rfl ?_
  intro p e s m args below meth c s₁ B hml hv
  obtain ⟨rfl, hsz, hP, hK, hD0, hNw⟩ := hv
  have hx := B.exec
  have hb := B.bytes
  have hr := B.returns
  have hts := atoms_spec (ws := wsX0_agrees) B.pre
  have hown : s.vm.findClass RX0 = some m.cls := findClass_of_methodNamed B.named
  have hlocks := B.notSynchronized
  subst hsz
  have hD := hD0.self (sz := s.heap.size)
  generalize hAe : va_A (qV8 a0 jjj jmb jjj cyI jkG) s.heap.size = A at hD ⊢
  have hA : ∀ q : Nat, s.heap.size ≤ q → A q := fun q h => by rw [← hAe]; exact Or.inr h
  have hS : va_S A s.heap s.heap [] := va_S.rf
  have hP : va_P (dC, dI) vwCl (qV8 a0 jjj jmb jjj cyI jkG) s.heap := hP
  have hl := lv_entry ([.ref a0, .int p1, .int p2]) (n := 3) (nbq rfl)
  rw [lg_entry_eq]
  generalize (lg_sl ([.ref a0, .int p1, .int p2]) ++ List.replicate (3 - (lg_sl ([.ref a0, .int p1, .int p2])).length) Slot.unset).toArray = ls at hl ⊢
  have hl : lv_has ls 3 [(0, .ref a0), (1, .int p1), (2, .int p2)] := hl
  have C0 : cfx p s m _ meth c cX0_agrees (some .boolean) wsX0_agrees RX0 3 A (dC, dI) (kT cyB cyI cyJ cyP) := ⟨hx, hb, hr, hts, hown, hlocks, hml, hA, hK, hNw⟩
  clear hAe
  obtain ⟨H, hH⟩ : ∃ H, H = s.heap := ⟨_, rfl⟩
  rw [← hH] at hP ⊢
  have hS : va_S A s.heap H [] := by rw [hH]; exact va_S.rf
  have hS := hS
  refine lv_aload_n hx hb (qaa qic 0 rfl) rfl (lv_at hl 0 rfl) ?_
  refine va_get (D := (dC, dI)) (ci := 0) (v := .ref jjj) (C := RX0) (T := TX0) (N := 2) hx hb hts q1a hown hK hP 0 rfl rfl 0 (by decide) (hts _ q33) (fun _ h9 => h9) rfl (qaa qic 1 rfl) ?_
  refine lv_iload_n hx hb (qaa qic 2 rfl) rfl (lv_at hl 1 rfl) ?_
  obtain ⟨hi9, hw⟩ := hw
  refine va_iald hx hb hK hP 1 1 rfl rfl hi9 (qaa qic 3 rfl) ?_
  refine lv_topi (fun x1 ex1 => ?_)
  have hw := hw x1 ex1
  refine lv_iconst (v := (-1)) hx hb (qaa qic 4 rfl) (by decide) ?_
  refine lv_icmp_eq (tgt := 20) hx hb (qaa qic 5 rfl) (by decide) (fun c2 => ?_) (fun c2 => ?_)
  · have hw := hw.1 c2
    exact q3V dC dI cyB cyI cyJ cyP a0 jjj jmb jkG Q C0 _ _ _ hP hD hS (lv_sub hl [] rfl) hw
  · have hw := hw.2 c2
    refine lv_aload_n hx hb (qaa qic 6 rfl) rfl (lv_at hl 0 rfl) ?_
    refine va_get (D := (dC, dI)) (ci := 0) (v := .ref jjj) (C := RX0) (T := TX0) (N := 2) hx hb hts q1a hown hK hP 0 rfl rfl 0 (by decide) (hts _ q33) (fun _ h9 => h9) rfl (qaa qic 7 rfl) ?_
    refine lv_iload_n hx hb (qaa qic 8 rfl) rfl (lv_at hl 1 rfl) ?_
    obtain ⟨hi9, hw⟩ := hw
    refine va_iald hx hb hK hP 1 1 rfl rfl hi9 (qaa qic 9 rfl) ?_
    refine lv_topi (fun x3 ex3 => ?_)
    have hw := hw x3 ex3
    refine lv_iload_n hx hb (qaa qic 10 rfl) rfl (lv_at hl 2 rfl) ?_
    refine lv_icmp_ne (tgt := 24) hx hb (qaa qic 11 rfl) (by decide) (fun c4 => ?_) (fun c4 => ?_)
    · have hw := hw.1 c4
      refine lv_iconst (v := 0) hx hb (qaa qic 14 rfl) (by decide) ?_
      exact ((W.zret (v := 0) hx hb hr rfl (fun t ht hW => ⟨⟨0, (), rfl, hw, by rw [ht]; exact hP, va_K.moved hW.alike hK, hD⟩, hS.F ht⟩) hS.2.2 (qaa qic 15 rfl)))
    · have hw := hw.2 c4
      exact q3V dC dI cyB cyI cyJ cyP a0 jjj jmb jkG Q C0 _ _ _ hP hD hS (lv_sub hl [] rfl) hw
theorem qJx : ∀ w ∈ u_ws RX3 TX3 11, w ∈ wsX3_allRight := uiM qzM euX3 (by decide +kernel)
theorem qafz : (.fieldLink RX3 40 "MarchHares$Fitting" "forms" "I" : Cond) ∈ wsX3_allRight := qzM 3474 (by decide +kernel)
theorem qRG : (.fieldLink RX3 41 "MarchHares$Fitting" "book" "LMarchHares$Book;" : Cond) ∈ wsX3_allRight := qzM 3475 (by decide +kernel)
set_option maxHeartbeats 4000000 in
set_option maxRecDepth 100000 in
theorem qauO {p : Program} {l : Launch} {e : Env} {s : State} {m : MethodId} {args : Array Value} {below : List Frame} {meth : Method} {c : Code} {A : Nat → Prop} (dC : Nat → ClassId) (dI : Nat → Nat → Nat) (cyB cyI cyJ cyP : ClassId) (a0 jdj jhY ji2 jj4 : Nat) (jlU jmo ja4 jmb jmc jkn jjZ jlV : Value) (jaN : Int32) (jiL jjH jkE : NI) (Q : Int32 → Prop) (C0 : cfx p s m args meth c cX3_allRight (some .boolean) wsX3_allRight RX3 4 A (dC, dI) (kT cyB cyI cyJ cyP)) : ∀ (n : Nat) (H : Heap) (locs : List Loc) (ls : Array Slot) (l1 l2 l3 : Int32), va_P (dC, dI) vwCl (qZL a0 jhY ji2 jlU jmo ja4 jaN jdj jmb jmc jkn jjZ jhY cyI jiL ji2 cyI jjH jdj jj4 jlV jj4 cyI jkE) H → va_D A (qZL a0 jhY ji2 jlU jmo ja4 jaN jdj jmb jmc jkn jjZ jhY cyI jiL ji2 cyI jjH jdj jj4 jlV jj4 cyI jkE) → va_S A s.heap H locs → lv_has ls 4 [(0, .ref a0), (1, .int l1), (2, .int l2), (3, .int l3)] → qEr jaN jiL jjH jkE Q n l1 l2 l3 → W p l e (headSpec wsX3_allRight ({ frames := 1, cells := 0, slots := 0, locals := 23 })).room s m args below meth c H locs 0 0 (MQ below (va_Qi (fun (r : Int32) (_ : Unit) => Q r ) (cB (dC, dI) (kT cyB cyI cyJ cyP) A (fun u : Unit => ((qZL a0 jhY ji2 jlU jmo ja4 jaN jdj jmb jmc jkn jjZ jhY cyI jiL ji2 cyI jjH jdj jj4 jlV jj4 cyI jkE) : va_W))) A) args s 0 0 A) (F0 m 2 ls []) := by
  obtain ⟨hx, hb, hr, hts, hown, hlocks, hml, hA, hK, hNw⟩ := id C0
  intro n
  induction n with
  | zero => intro H locs ls l1 l2 l3 hP hD hS hl hw; exact False.elim hw
  | succ n ih =>
    intro H locs ls l1 l2 l3 hP hD hS hl hw
    refine lv_iload_n hx hb (qaa qfR 2 rfl) rfl (lv_at hl 3 rfl) ?_
    refine lv_aload_n hx hb (qaa qfR 3 rfl) rfl (lv_at hl 0 rfl) ?_
    refine va_get (D := (dC, dI)) (ci := 3) (v := .int jaN) (C := RX3) (T := TX3) (N := 11) hx hb hts qJx hown hK hP 0 rfl rfl 5 (by decide) (hts _ qafz) (fun _ h9 => h9) rfl (qaa qfR 4 rfl) ?_
    refine lv_icmp_ge (tgt := 43) hx hb (qaa qfR 5 rfl) (by decide) (fun c1 => ?_) (fun c1 => ?_)
    · have hw := hw.1 c1
      refine lv_iconst (v := 1) hx hb (qaa qpD 7 rfl) (by decide) ?_
      exact ((W.zret (v := 1) hx hb hr rfl (fun t ht hW => ⟨⟨1, (), rfl, hw, by rw [ht]; exact hP, va_K.moved hW.alike hK, hD⟩, hS.F ht⟩) hS.2.2 (qaa qpD 8 rfl)))
    · have hw := hw.2 c1
      refine lv_aload_n hx hb (qaa qfR 6 rfl) rfl (lv_at hl 0 rfl) ?_
      refine va_get (D := (dC, dI)) (ci := 3) (v := .ref jdj) (C := RX3) (T := TX3) (N := 11) hx hb hts qJx hown hK hP 0 rfl rfl 6 (by decide) (hts _ qRG) (fun _ h9 => h9) rfl (qaa qfR 7 rfl) ?_
      refine lv_ifnull hx hb (qaa qfR 8 rfl) ?_
      refine lv_aload_n hx hb (qaa qfR 9 rfl) rfl (lv_at hl 0 rfl) ?_
      refine va_get (D := (dC, dI)) (ci := 3) (v := .ref jdj) (C := RX3) (T := TX3) (N := 11) hx hb hts qJx hown hK hP 0 rfl rfl 6 (by decide) (hts _ qRG) (fun _ h9 => h9) rfl (qaa qfR 10 rfl) ?_
      refine lv_iload_n hx hb (qaa qfR 11 rfl) rfl (lv_at hl 3 rfl) ?_
      refine lv_aload_n hx hb (qaa qfR 12 rfl) rfl (lv_at hl 0 rfl) ?_
      refine lv_iload_n hx hb (qaa qfR 13 rfl) rfl (lv_at hl 3 rfl) ?_
      refine lv_iload_n hx hb (qaa qfR 14 rfl) rfl (lv_at hl 1 rfl) ?_
      refine lv_iload_n hx hb (qaa qfR 15 rfl) rfl (lv_at hl 2 rfl) ?_
      obtain ⟨hCc, hPc, hDc, hFc⟩ := qac (ws' := (qaZT a0 jhY ji2 jlU jmo ja4 jaN jdj jmb jmc jkn jjZ jhY cyI jiL ji2 cyI jjH)) hP hD hS hA [0, 1, 2] (by decide +kernel) rfl
      refine va_calli (va_runV (As := [.int l3, .int l1, .int l2]) (rest := [.int l3, .ref jdj]) ⟨hx, hb, hml, hown, hts⟩ (qY7 l dC dI cyB cyI cyJ cyP a0 jhY ji2 H.size (jlU) (jmo) (ja4) (.int jaN) (.ref jdj) (jmb) (jmc) (jkn) (jjZ) jiL jjH l3 l1 l2 hw) (cwV 3 hts gX3_allRight_X3_seatedThen rfl rfl rfl (by decide +kernel) ⟨nbq rfl, nbq rfl⟩) ⟨qab, va_recv (q := (RX3, TX3, 11)) hK hPc (ci := 3) (q0 := 0) rfl rfl, qae hPc hK hDc hNw⟩ rfl rfl hl.1 rfl (lv_room (nbq rfl)) (qaa qpD 0 rfl) ⟨nbq rfl, nbq rfl⟩) hS (fun q _ h => hFc q h) hFc (fun r2 u t H1 locs ht hvm hw hB hz1 hk1 hS => ?_)
      obtain ⟨hP1, hK1, hD1⟩ := hB
      rw [ht] at hP1
      obtain ⟨hP, hD⟩ := qad (wr := (qV8 jdj jj4 jlV jj4 cyI jkE)) (w1 := (qaZT a0 jhY ji2 jlU jmo ja4 jaN jdj jmb jmc jkn jjZ jhY cyI jiL ji2 cyI jjH)) (wn := (qZL a0 jhY ji2 jlU jmo ja4 jaN jdj jmb jmc jkn jjZ jhY cyI jiL ji2 cyI jjH jdj jj4 jlV jj4 cyI jkE)) hP hD [0, 1, 2] [3, 4] [2, 3, 4, 0, 1] hCc rfl (by decide +kernel) (by decide +kernel) (by decide +kernel) rfl hk1 hFc hP1 hD1
      generalize H1 = H at hP hS ⊢
      obtain ⟨hCc, hPc, hDc, hFc⟩ := qac (ws' := (qV8 jdj jj4 jlV jj4 cyI jkE)) hP hD hS hA [3, 4] (by decide +kernel) rfl
      refine va_calli (va_runV (As := [.int l3, .int r2]) (rest := []) ⟨hx, hb, hml, hown, hts⟩ (qaTi l dC dI cyB cyI cyJ cyP jdj jj4 H.size (jlV) jkE l3 r2 hw) (cwV 2 hts gX3_allRight_X0_agrees rfl rfl rfl (by decide +kernel) ⟨nbq rfl, nbq rfl⟩) ⟨qab, va_recv (q := (RX0, TX0, 2)) hK hPc (ci := 0) (q0 := 0) rfl rfl, qae hPc hK hDc hNw⟩ rfl rfl hl.1 rfl (lv_room (nbq rfl)) (qaa qpD 1 rfl) ⟨nbq rfl, nbq rfl⟩) hS (fun q _ h => hFc q h) hFc (fun r3 u t H1 locs ht hvm hw hB hz1 hk1 hS => ?_)
      obtain ⟨hP1, hK1, hD1⟩ := hB
      rw [ht] at hP1
      obtain ⟨hP, hD⟩ := qah (wr := (qaZT a0 jhY ji2 jlU jmo ja4 jaN jdj jmb jmc jkn jjZ jhY cyI jiL ji2 cyI jjH)) (w1 := (qV8 jdj jj4 jlV jj4 cyI jkE)) (wn := (qZL a0 jhY ji2 jlU jmo ja4 jaN jdj jmb jmc jkn jjZ jhY cyI jiL ji2 cyI jjH jdj jj4 jlV jj4 cyI jkE)) hP hD [3, 4] [0, 1, 2] hCc rfl (by decide +kernel) (by decide +kernel) rfl hk1 hFc hP1 hD1
      generalize H1 = H at hP hS ⊢
      refine lv_if_ne (tgt := 37) hx hb (qaa qpD 2 rfl) (by decide) (fun c4 => ?_) (fun c4 => ?_)
      · have hw := hw.1 c4
        obtain ⟨x5, ex5⟩ : ∃ y : Int32, y = l3 + 1 := ⟨_, rfl⟩
        have hw := hw x5 ex5
        refine lv_iinc (v := x5) (lv' := [(3, .int x5), (0, .ref a0), (1, .int l1), (2, .int l2)]) hx hb (qaa qpD 5 rfl) hl (k := 3) rfl (by rw [ex5]; rfl) (by decide) rfl (fun ls hl => ?_)
        refine lv_goto (tgt := 2) hx hb (qaa qpD 6 rfl) (by decide) ?_
        exact ih _ _ _ l1 l2 x5 hP hD hS (lv_sub hl [1, 2, 3, 0] rfl) hw
      · have hw := hw.2 c4
        refine lv_iconst (v := 0) hx hb (qaa qpD 3 rfl) (by decide) ?_
        exact ((W.zret (v := 0) hx hb hr rfl (fun t ht hW => ⟨⟨0, (), rfl, hw, by rw [ht]; exact hP, va_K.moved hW.alike hK, hD⟩, hS.F ht⟩) hS.2.2 (qaa qpD 4 rfl)))
set_option maxHeartbeats 4000000 in
set_option maxRecDepth 100000 in
theorem qaKe (l : Launch) (dC : Nat → ClassId) (dI : Nat → Nat → Nat) (cyB cyI cyJ cyP : ClassId) (a0 jdj jhY ji2 jj4 sz : Nat) (jlU jmo ja4 jmb jmc jkn jjZ jlV : Value) (jaN : Int32) (jiL jjH jkE : NI) (p1 p2 : Int32) {Q : Int32 → Prop} (hw : qT6 jaN jiL jjH jkE p1 p2 Q) : Met l yX3_allRight wsX3_allRight ({ frames := 1, cells := 0, slots := 0, locals := 23 }) (va_Pc [.ref a0, .int p1, .int p2] (cPc (dC, dI) (kT cyB cyI cyJ cyP) (qZL a0 jhY ji2 jlU jmo ja4 jaN jdj jmb jmc jkn jjZ jhY cyI jiL ji2 cyI jjH jdj jj4 jlV jj4 cyI jkE) sz)) (va_Qi (fun (r : Int32) (_ : Unit) => Q r ) (cB (dC, dI) (kT cyB cyI cyJ cyP) (va_A (qZL a0 jhY ji2 jlU jmo ja4 jaN jdj jmb jmc jkn jjZ jhY cyI jiL ji2 cyI jjH jdj jj4 jlV jj4 cyI jkE) sz) (fun u : Unit => ((qZL a0 jhY ji2 jlU jmo ja4 jaN jdj jmb jmc jkn jjZ jhY cyI jiL ji2 cyI jjH jdj jj4 jlV jj4 cyI jkE) : va_W))) (va_A (qZL a0 jhY ji2 jlU jmo ja4 jaN jdj jmb jmc jkn jjZ jhY cyI jiL ji2 cyI jjH jdj jj4 jlV jj4 cyI jkE) sz)) 0 0 (va_A (qZL a0 jhY ji2 jlU jmo ja4 jaN jdj jmb jmc jkn jjZ jhY cyI jiL ji2 cyI jjH jdj jj4 jlV jj4 cyI jkE) sz) := by
  refine Met.ofW (cc := cX3_allRight) (maxL := 4) (ret := (some .boolean)) (by decide) rfl ?_
  intro p e s m args below meth c s₁ B hml hv
  obtain ⟨rfl, hsz, hP, hK, hD0, hNw⟩ := hv
  have hx := B.exec
  have hb := B.bytes
  have hr := B.returns
  have hts := atoms_spec (ws := wsX3_allRight) B.pre
  have hown : s.vm.findClass RX3 = some m.cls := findClass_of_methodNamed B.named
  have hlocks := B.notSynchronized
  subst hsz
  have hD := hD0.self (sz := s.heap.size)
  generalize hAe : va_A (qZL a0 jhY ji2 jlU jmo ja4 jaN jdj jmb jmc jkn jjZ jhY cyI jiL ji2 cyI jjH jdj jj4 jlV jj4 cyI jkE) s.heap.size = A at hD ⊢
  have hA : ∀ q : Nat, s.heap.size ≤ q → A q := fun q h => by rw [← hAe]; exact Or.inr h
  have hS : va_S A s.heap s.heap [] := va_S.rf
  have hP : va_P (dC, dI) vwCl (qZL a0 jhY ji2 jlU jmo ja4 jaN jdj jmb jmc jkn jjZ jhY cyI jiL ji2 cyI jjH jdj jj4 jlV jj4 cyI jkE) s.heap := hP
  have hl := lv_entry ([.ref a0, .int p1, .int p2]) (n := 4) (nbq rfl)
  rw [lg_entry_eq]
  generalize (lg_sl ([.ref a0, .int p1, .int p2]) ++ List.replicate (4 - (lg_sl ([.ref a0, .int p1, .int p2])).length) Slot.unset).toArray = ls at hl ⊢
  have hl : lv_has ls 4 [(0, .ref a0), (1, .int p1), (2, .int p2)] := hl
  have C0 : cfx p s m _ meth c cX3_allRight (some .boolean) wsX3_allRight RX3 4 A (dC, dI) (kT cyB cyI cyJ cyP) := ⟨hx, hb, hr, hts, hown, hlocks, hml, hA, hK, hNw⟩
  clear hAe
  obtain ⟨H, hH⟩ : ∃ H, H = s.heap := ⟨_, rfl⟩
  rw [← hH] at hP ⊢
  have hS : va_S A s.heap H [] := by rw [hH]; exact va_S.rf
  have hS := hS
  refine lv_iconst (v := 0) hx hb (qaa qfR 0 rfl) (by decide) ?_
  refine lv_istore_n (lv' := [(3, .int 0), (0, .ref a0), (1, .int p1), (2, .int p2)]) hx hb (qaa qfR 1 rfl) rfl hl (by decide) rfl (fun ls hl => ?_)
  obtain ⟨n9, hw⟩ := hw
  exact qauO dC dI cyB cyI cyJ cyP a0 jdj jhY ji2 jj4 jlU jmo ja4 jmb jmc jkn jjZ jlV jaN jiL jjH jkE Q C0 n9 _ _ _ p1 p2 0 hP hD hS (lv_sub hl [1, 2, 3, 0] rfl) hw
theorem qvu : ∀ w ∈ u_ws RX3 TX3 11, w ∈ wsX3_formsFor := uiM qC8 euX3 (by decide +kernel)
theorem qagT : (.fieldLink RX3 40 "MarchHares$Fitting" "forms" "I" : Cond) ∈ wsX3_formsFor := qC8 3474 (by decide +kernel)
theorem qIQ : (.fieldLink RX3 45 "MarchHares$Fitting" "many" "I" : Cond) ∈ wsX3_formsFor := qC8 3476 (by decide +kernel)
theorem qSH : (.fieldLink RX3 48 "MarchHares$Fitting" "first" "I" : Cond) ∈ wsX3_formsFor := qC8 3477 (by decide +kernel)
set_option maxHeartbeats 4000000 in
set_option maxRecDepth 100000 in
theorem qVa {p : Program} {l : Launch} {e : Env} {s : State} {m : MethodId} {args : Array Value} {below : List Frame} {meth : Method} {c : Code} {A : Nat → Prop} (dC : Nat → ClassId) (dI : Nat → Nat → Nat) (cyB cyI cyJ cyP : ClassId) (a0 jhY ji2 jdj jj4 : Nat) (jlU jmo ja4 jkn jjZ jlV : Value) (jaN : Int32) (jiL jjH jkE : NI) (Q : Int32 → Int32 → Int32 → Prop) (K4 : Int32 → Int32 → Int32 → Int32 → Int32 → Prop) (hK4 : ∀ (H : Heap) (locs : List Loc) (ls : Array Slot) (jl7 jkY l1 l2 l3 : Int32), va_P (dC, dI) vwCl (qsb a0 jhY ji2 jlU jmo ja4 jaN jdj jkY jl7 jkn jjZ jhY cyI jiL ji2 cyI jjH jdj jj4 jlV jj4 cyI jkE) H → va_D A (qsb a0 jhY ji2 jlU jmo ja4 jaN jdj jkY jl7 jkn jjZ jhY cyI jiL ji2 cyI jjH jdj jj4 jlV jj4 cyI jkE) → va_S A s.heap H locs → lv_has ls 4 [(0, .ref a0), (1, .int l1), (2, .int l2), (3, .int l3)] → K4 jl7 jkY l1 l2 l3 → W p l e (headSpec wsX3_formsFor ({ frames := 2, cells := 0, slots := 0, locals := 46 })).room s m args below meth c H locs 0 0 (MQ below (va_Qi (fun (r : Int32) (u : Int32 × Int32) => Q r u.1 u.2) (cB (dC, dI) (kT cyB cyI cyJ cyP) A (fun u : Int32 × Int32 => ((qsb a0 jhY ji2 jlU jmo ja4 jaN jdj u.2 u.1 jkn jjZ jhY cyI jiL ji2 cyI jjH jdj jj4 jlV jj4 cyI jkE) : va_W))) A) args s 0 0 A) (F0 m 4 ls [])) (C0 : cfx p s m args meth c cX3_formsFor (some .int) wsX3_formsFor RX3 4 A (dC, dI) (kT cyB cyI cyJ cyP)) : ∀ (H : Heap) (locs : List Loc) (ls : Array Slot) (jl7 jkY l1 l2 l3 : Int32), va_P (dC, dI) vwCl (qsb a0 jhY ji2 jlU jmo ja4 jaN jdj jkY jl7 jkn jjZ jhY cyI jiL ji2 cyI jjH jdj jj4 jlV jj4 cyI jkE) H → va_D A (qsb a0 jhY ji2 jlU jmo ja4 jaN jdj jkY jl7 jkn jjZ jhY cyI jiL ji2 cyI jjH jdj jj4 jlV jj4 cyI jkE) → va_S A s.heap H locs → lv_has ls 4 [(0, .ref a0), (1, .int l1), (2, .int l2), (3, .int l3)] → qJN jaN jiL jjH jkE Q K4 jl7 jkY l1 l2 l3 → W p l e (headSpec wsX3_formsFor ({ frames := 2, cells := 0, slots := 0, locals := 46 })).room s m args below meth c H locs 0 0 (MQ below (va_Qi (fun (r : Int32) (u : Int32 × Int32) => Q r u.1 u.2) (cB (dC, dI) (kT cyB cyI cyJ cyP) A (fun u : Int32 × Int32 => ((qsb a0 jhY ji2 jlU jmo ja4 jaN jdj u.2 u.1 jkn jjZ jhY cyI jiL ji2 cyI jjH jdj jj4 jlV jj4 cyI jkE) : va_W))) A) args s 0 0 A) (F0 m 61 ls []) := by
  obtain ⟨hx, hb, hr, hts, hown, hlocks, hml, hA, hK, hNw⟩ := id C0
  intro H locs ls jl7 jkY l1 l2 l3 hP hD hS hl hw
  obtain ⟨x8, ex8⟩ : ∃ y : Int32, y = l3 + 1 := ⟨_, rfl⟩
  have hw := hw x8 ex8
  refine lv_iinc (v := x8) (lv' := [(3, .int x8), (0, .ref a0), (1, .int l1), (2, .int l2)]) hx hb (qaa qog 6 rfl) hl (k := 3) rfl (by rw [ex8]; rfl) (by decide) rfl (fun ls hl => ?_)
  refine lv_goto (tgt := 4) hx hb (qaa qog 7 rfl) (by decide) ?_
  exact hK4 _ _ _ jl7 jkY l1 l2 x8 hP hD hS (lv_sub hl [1, 2, 3, 0] rfl) hw
set_option maxHeartbeats 4000000 in
set_option maxRecDepth 100000 in
theorem qVK {p : Program} {l : Launch} {e : Env} {s : State} {m : MethodId} {args : Array Value} {below : List Frame} {meth : Method} {c : Code} {A : Nat → Prop} (dC : Nat → ClassId) (dI : Nat → Nat → Nat) (cyB cyI cyJ cyP : ClassId) (a0 jhY ji2 jdj jj4 : Nat) (jlU jmo ja4 jkn jjZ jlV : Value) (jaN : Int32) (jiL jjH jkE : NI) (Q : Int32 → Int32 → Int32 → Prop) (K4 : Int32 → Int32 → Int32 → Int32 → Int32 → Prop) (hK4 : ∀ (H : Heap) (locs : List Loc) (ls : Array Slot) (jl7 jkY l1 l2 l3 : Int32), va_P (dC, dI) vwCl (qsb a0 jhY ji2 jlU jmo ja4 jaN jdj jkY jl7 jkn jjZ jhY cyI jiL ji2 cyI jjH jdj jj4 jlV jj4 cyI jkE) H → va_D A (qsb a0 jhY ji2 jlU jmo ja4 jaN jdj jkY jl7 jkn jjZ jhY cyI jiL ji2 cyI jjH jdj jj4 jlV jj4 cyI jkE) → va_S A s.heap H locs → lv_has ls 4 [(0, .ref a0), (1, .int l1), (2, .int l2), (3, .int l3)] → K4 jl7 jkY l1 l2 l3 → W p l e (headSpec wsX3_formsFor ({ frames := 2, cells := 0, slots := 0, locals := 46 })).room s m args below meth c H locs 0 0 (MQ below (va_Qi (fun (r : Int32) (u : Int32 × Int32) => Q r u.1 u.2) (cB (dC, dI) (kT cyB cyI cyJ cyP) A (fun u : Int32 × Int32 => ((qsb a0 jhY ji2 jlU jmo ja4 jaN jdj u.2 u.1 jkn jjZ jhY cyI jiL ji2 cyI jjH jdj jj4 jlV jj4 cyI jkE) : va_W))) A) args s 0 0 A) (F0 m 4 ls [])) (C0 : cfx p s m args meth c cX3_formsFor (some .int) wsX3_formsFor RX3 4 A (dC, dI) (kT cyB cyI cyJ cyP)) : ∀ (H : Heap) (locs : List Loc) (ls : Array Slot) (jl7 jkY l1 l2 l3 s1 : Int32), va_P (dC, dI) vwCl (qsb a0 jhY ji2 jlU jmo ja4 jaN jdj jkY jl7 jkn jjZ jhY cyI jiL ji2 cyI jjH jdj jj4 jlV jj4 cyI jkE) H → va_D A (qsb a0 jhY ji2 jlU jmo ja4 jaN jdj jkY jl7 jkn jjZ jhY cyI jiL ji2 cyI jjH jdj jj4 jlV jj4 cyI jkE) → va_S A s.heap H locs → lv_has ls 4 [(0, .ref a0), (1, .int l1), (2, .int l2), (3, .int l3)] → qKb jaN jiL jjH jkE Q K4 jl7 jkY l1 l2 l3 s1 → W p l e (headSpec wsX3_formsFor ({ frames := 2, cells := 0, slots := 0, locals := 46 })).room s m args below meth c H locs 0 0 (MQ below (va_Qi (fun (r : Int32) (u : Int32 × Int32) => Q r u.1 u.2) (cB (dC, dI) (kT cyB cyI cyJ cyP) A (fun u : Int32 × Int32 => ((qsb a0 jhY ji2 jlU jmo ja4 jaN jdj u.2 u.1 jkn jjZ jhY cyI jiL ji2 cyI jjH jdj jj4 jlV jj4 cyI jkE) : va_W))) A) args s 0 0 A) (F0 m 48 ls [.int s1, .ref a0]) := by
  obtain ⟨hx, hb, hr, hts, hown, hlocks, hml, hA, hK, hNw⟩ := id C0
  intro H locs ls jl7 jkY l1 l2 l3 s1 hP hD hS hl hw
  refine va_put (D := (dC, dI)) (ci := 3) (v := .int s1) (ty := .int) (C := RX3) (T := TX3) (N := 11) hx hb hts qvu tyX3 tyX3_ok nmX3 hown hK hP hD hS 0 rfl rfl 8 (by decide) (hts _ qSH) (fun _ h9 => h9) rfl (by decide +kernel) rfl rfl (nbq rfl) (qaa qdX 15 rfl) (fun H locs hP hD hS => ?_)
  have hP : va_P (dC, dI) vwCl (qsb a0 jhY ji2 jlU jmo ja4 jaN jdj jkY s1 jkn jjZ jhY cyI jiL ji2 cyI jjH jdj jj4 jlV jj4 cyI jkE) H := hP
  have hD : va_D A (qsb a0 jhY ji2 jlU jmo ja4 jaN jdj jkY s1 jkn jjZ jhY cyI jiL ji2 cyI jjH jdj jj4 jlV jj4 cyI jkE) := hD
  refine lv_aload_n hx hb (qaa qog 0 rfl) rfl (lv_at hl 0 rfl) ?_
  refine lv_dup hx hb (qaa qog 1 rfl) rfl ?_
  refine va_get (D := (dC, dI)) (ci := 3) (v := .int jkY) (C := RX3) (T := TX3) (N := 11) hx hb hts qvu hown hK hP 0 rfl rfl 7 (by decide) (hts _ qIQ) (fun _ h9 => h9) rfl (qaa qog 2 rfl) ?_
  refine lv_iconst (v := 1) hx hb (qaa qog 3 rfl) (by decide) ?_
  refine lv_iadd hx hb (qaa qog 4 rfl) ?_
  refine lv_topi (fun x9 ex9 => ?_)
  have hw := hw x9 ex9
  refine va_put (D := (dC, dI)) (ci := 3) (v := .int x9) (ty := .int) (C := RX3) (T := TX3) (N := 11) hx hb hts qvu tyX3 tyX3_ok nmX3 hown hK hP hD hS 0 rfl rfl 7 (by decide) (hts _ qIQ) (fun _ h9 => h9) rfl (by decide +kernel) rfl rfl (nbq rfl) (qaa qog 5 rfl) (fun H locs hP hD hS => ?_)
  have hP : va_P (dC, dI) vwCl (qsb a0 jhY ji2 jlU jmo ja4 jaN jdj x9 s1 jkn jjZ jhY cyI jiL ji2 cyI jjH jdj jj4 jlV jj4 cyI jkE) H := hP
  have hD : va_D A (qsb a0 jhY ji2 jlU jmo ja4 jaN jdj x9 s1 jkn jjZ jhY cyI jiL ji2 cyI jjH jdj jj4 jlV jj4 cyI jkE) := hD
  exact qVa dC dI cyB cyI cyJ cyP a0 jhY ji2 jdj jj4 jlU jmo ja4 jkn jjZ jlV jaN jiL jjH jkE Q K4 hK4 C0 _ _ _ s1 x9 l1 l2 l3 hP hD hS (lv_sub hl [0, 1, 2, 3] rfl) hw
set_option maxHeartbeats 4000000 in
set_option maxRecDepth 100000 in
theorem qasA {p : Program} {l : Launch} {e : Env} {s : State} {m : MethodId} {args : Array Value} {below : List Frame} {meth : Method} {c : Code} {A : Nat → Prop} (dC : Nat → ClassId) (dI : Nat → Nat → Nat) (cyB cyI cyJ cyP : ClassId) (a0 jhY ji2 jdj jj4 : Nat) (jlU jmo ja4 jkn jjZ jlV : Value) (jaN : Int32) (jiL jjH jkE : NI) (Q : Int32 → Int32 → Int32 → Prop) (C0 : cfx p s m args meth c cX3_formsFor (some .int) wsX3_formsFor RX3 4 A (dC, dI) (kT cyB cyI cyJ cyP)) : ∀ (n : Nat) (H : Heap) (locs : List Loc) (ls : Array Slot) (jl7 jkY l1 l2 l3 : Int32), va_P (dC, dI) vwCl (qsb a0 jhY ji2 jlU jmo ja4 jaN jdj jkY jl7 jkn jjZ jhY cyI jiL ji2 cyI jjH jdj jj4 jlV jj4 cyI jkE) H → va_D A (qsb a0 jhY ji2 jlU jmo ja4 jaN jdj jkY jl7 jkn jjZ jhY cyI jiL ji2 cyI jjH jdj jj4 jlV jj4 cyI jkE) → va_S A s.heap H locs → lv_has ls 4 [(0, .ref a0), (1, .int l1), (2, .int l2), (3, .int l3)] → qqT jaN jiL jjH jkE Q n jl7 jkY l1 l2 l3 → W p l e (headSpec wsX3_formsFor ({ frames := 2, cells := 0, slots := 0, locals := 46 })).room s m args below meth c H locs 0 0 (MQ below (va_Qi (fun (r : Int32) (u : Int32 × Int32) => Q r u.1 u.2) (cB (dC, dI) (kT cyB cyI cyJ cyP) A (fun u : Int32 × Int32 => ((qsb a0 jhY ji2 jlU jmo ja4 jaN jdj u.2 u.1 jkn jjZ jhY cyI jiL ji2 cyI jjH jdj jj4 jlV jj4 cyI jkE) : va_W))) A) args s 0 0 A) (F0 m 4 ls []) := by
  obtain ⟨hx, hb, hr, hts, hown, hlocks, hml, hA, hK, hNw⟩ := id C0
  intro n
  induction n with
  | zero => intro H locs ls jl7 jkY l1 l2 l3 hP hD hS hl hw; exact False.elim hw
  | succ n ih =>
    intro H locs ls jl7 jkY l1 l2 l3 hP hD hS hl hw
    refine lv_iload_n hx hb (qaa qfK 4 rfl) rfl (lv_at hl 3 rfl) ?_
    refine lv_aload_n hx hb (qaa qfK 5 rfl) rfl (lv_at hl 0 rfl) ?_
    refine va_get (D := (dC, dI)) (ci := 3) (v := .int jaN) (C := RX3) (T := TX3) (N := 11) hx hb hts qvu hown hK hP 0 rfl rfl 5 (by decide) (hts _ qagT) (fun _ h9 => h9) rfl (qaa qfK 6 rfl) ?_
    refine lv_icmp_ge (tgt := 67) hx hb (qaa qfK 7 rfl) (by decide) (fun c1 => ?_) (fun c1 => ?_)
    · have hw := hw.1 c1
      refine lv_iload_n hx hb (qaa qog 8 rfl) rfl (lv_at hl 2 rfl) ?_
      exact ((W.iret (v := l2) hx hb hr (fun t ht hW => ⟨⟨l2, (jl7, jkY), rfl, hw, by rw [ht]; exact hP, va_K.moved hW.alike hK, hD⟩, hS.F ht⟩) hS.2.2 (qaa qog 9 rfl)))
    · have hw := hw.2 c1
      refine lv_aload_n hx hb (qaa qfK 8 rfl) rfl (lv_at hl 0 rfl) ?_
      refine lv_iload_n hx hb (qaa qfK 9 rfl) rfl (lv_at hl 1 rfl) ?_
      refine lv_iload_n hx hb (qaa qfK 10 rfl) rfl (lv_at hl 3 rfl) ?_
      obtain ⟨hCc, hPc, hDc, hFc⟩ := qac (ws' := (qsb a0 jhY ji2 jlU jmo ja4 jaN jdj jkY jl7 jkn jjZ jhY cyI jiL ji2 cyI jjH jdj jj4 jlV jj4 cyI jkE)) hP hD hS hA [0, 1, 2, 3, 4] (by decide +kernel) rfl
      refine va_calli (va_runV (As := [.int l1, .int l3]) (rest := []) ⟨hx, hb, hml, hown, hts⟩ (qaKe l dC dI cyB cyI cyJ cyP a0 jdj jhY ji2 jj4 H.size (jlU) (jmo) (ja4) (.int jkY) (.int jl7) (jkn) (jjZ) (jlV) jaN jiL jjH jkE l1 l3 hw) (cwV 2 hts gX3_formsFor_X3_allRight rfl rfl rfl (by decide +kernel) ⟨nbq rfl, nbq rfl⟩) ⟨qab, va_recv (q := (RX3, TX3, 11)) hK hPc (ci := 3) (q0 := 0) rfl rfl, qae hPc hK hDc hNw⟩ rfl rfl hl.1 rfl (lv_room (nbq rfl)) (qaa qfK 11 rfl) ⟨nbq rfl, nbq rfl⟩) hS (fun q _ h => hFc q h) hFc (fun r2 u t H1 locs ht hvm hw hB hz1 hk1 hS => ?_)
      obtain ⟨hP1, hK1, hD1⟩ := hB
      rw [ht] at hP1
      obtain ⟨hP, hD⟩ := qah (wr := []) (w1 := (qsb a0 jhY ji2 jlU jmo ja4 jaN jdj jkY jl7 jkn jjZ jhY cyI jiL ji2 cyI jjH jdj jj4 jlV jj4 cyI jkE)) (wn := (qsb a0 jhY ji2 jlU jmo ja4 jaN jdj jkY jl7 jkn jjZ jhY cyI jiL ji2 cyI jjH jdj jj4 jlV jj4 cyI jkE)) hP hD [0, 1, 2, 3, 4] [] hCc rfl (by decide +kernel) (by decide +kernel) rfl hk1 hFc hP1 hD1
      generalize H1 = H at hP hS ⊢
      refine lv_if_eq (tgt := 61) hx hb (qaa qfK 12 rfl) (by decide) (fun c3 => ?_) (fun c3 => ?_)
      · have hw := hw.1 c3
        exact qVa dC dI cyB cyI cyJ cyP a0 jhY ji2 jdj jj4 jlU jmo ja4 jkn jjZ jlV jaN jiL jjH jkE Q (qqT jaN jiL jjH jkE Q n) ih C0 _ _ _ jl7 jkY l1 l2 l3 hP hD hS (lv_sub hl [0, 1, 2, 3] rfl) hw
      · have hw := hw.2 c3
        refine lv_iload_n hx hb (qaa qfK 13 rfl) rfl (lv_at hl 2 rfl) ?_
        refine lv_iconst (v := 1) hx hb (qaa qfK 14 rfl) (by decide) ?_
        refine lv_iload_n hx hb (qaa qfK 15 rfl) rfl (lv_at hl 3 rfl) ?_
        refine lv_ishl hx hb (qaa qdX 0 rfl) ?_
        refine lv_ior hx hb (qaa qdX 1 rfl) ?_
        refine lv_topi (fun x4 ex4 => ?_)
        have hw := hw x4 ex4
        refine lv_istore_n (lv' := [(2, .int x4), (0, .ref a0), (1, .int l1), (3, .int l3)]) hx hb (qaa qdX 2 rfl) rfl hl (by decide) rfl (fun ls hl => ?_)
        refine lv_aload_n hx hb (qaa qdX 3 rfl) rfl (lv_at hl 1 rfl) ?_
        refine lv_aload_n hx hb (qaa qdX 4 rfl) rfl (lv_at hl 1 rfl) ?_
        refine va_get (D := (dC, dI)) (ci := 3) (v := .int jkY) (C := RX3) (T := TX3) (N := 11) hx hb hts qvu hown hK hP 0 rfl rfl 7 (by decide) (hts _ qIQ) (fun _ h9 => h9) rfl (qaa qdX 5 rfl) ?_
        refine lv_if_ne (tgt := 44) hx hb (qaa qdX 6 rfl) (by decide) (fun c5 => ?_) (fun c5 => ?_)
        · have hw := hw.1 c5
          refine lv_aload_n hx hb (qaa qdX 13 rfl) rfl (lv_at hl 1 rfl) ?_
          refine va_get (D := (dC, dI)) (ci := 3) (v := .int jl7) (C := RX3) (T := TX3) (N := 11) hx hb hts qvu hown hK hP 0 rfl rfl 8 (by decide) (hts _ qSH) (fun _ h9 => h9) rfl (qaa qdX 14 rfl) ?_
          exact qVK dC dI cyB cyI cyJ cyP a0 jhY ji2 jdj jj4 jlU jmo ja4 jkn jjZ jlV jaN jiL jjH jkE Q (qqT jaN jiL jjH jkE Q n) ih C0 _ _ _ jl7 jkY l1 x4 l3 jl7 hP hD hS (lv_sub hl [1, 2, 0, 3] rfl) hw
        · have hw := hw.2 c5
          refine lv_bipush (v := 10) hx hb (qaa qdX 7 rfl) (by decide) ?_
          refine lv_iload_n hx hb (qaa qdX 8 rfl) rfl (lv_at hl 2 rfl) ?_
          refine lv_imul hx hb (qaa qdX 9 rfl) ?_
          refine lv_topi (fun x6 ex6 => ?_)
          have hw := hw x6 ex6
          refine lv_iload_n hx hb (qaa qdX 10 rfl) rfl (lv_at hl 3 rfl) ?_
          refine lv_iadd hx hb (qaa qdX 11 rfl) ?_
          refine lv_topi (fun x7 ex7 => ?_)
          have hw := hw x7 ex7
          refine lv_goto (tgt := 48) hx hb (qaa qdX 12 rfl) (by decide) ?_
          exact qVK dC dI cyB cyI cyJ cyP a0 jhY ji2 jdj jj4 jlU jmo ja4 jkn jjZ jlV jaN jiL jjH jkE Q (qqT jaN jiL jjH jkE Q n) ih C0 _ _ _ jl7 jkY l1 x4 l3 x7 hP hD hS (lv_sub hl [1, 2, 0, 3] rfl) hw
set_option maxHeartbeats 4000000 in
set_option maxRecDepth 100000 in
theorem qaJg (l : Launch) (dC : Nat → ClassId) (dI : Nat → Nat → Nat) (cyB cyI cyJ cyP : ClassId) (a0 jhY ji2 jdj jj4 sz : Nat) (jlU jmo ja4 jkn jjZ jlV : Value) (jaN : Int32) (jiL jjH jkE : NI) (jl7 jkY p1 : Int32) {Q : Int32 → Int32 → Int32 → Prop} (hw : qTk jaN jiL jjH jkE jl7 jkY p1 Q) : Met l yX3_formsFor wsX3_formsFor ({ frames := 2, cells := 0, slots := 0, locals := 46 }) (va_Pc [.ref a0, .int p1] (cPc (dC, dI) (kT cyB cyI cyJ cyP) (qsb a0 jhY ji2 jlU jmo ja4 jaN jdj jkY jl7 jkn jjZ jhY cyI jiL ji2 cyI jjH jdj jj4 jlV jj4 cyI jkE) sz)) (va_Qi (fun (r : Int32) (u : Int32 × Int32) => Q r u.1 u.2) (cB (dC, dI) (kT cyB cyI cyJ cyP) (va_A (qsb a0 jhY ji2 jlU jmo ja4 jaN jdj jkY jl7 jkn jjZ jhY cyI jiL ji2 cyI jjH jdj jj4 jlV jj4 cyI jkE) sz) (fun u : Int32 × Int32 => ((qsb a0 jhY ji2 jlU jmo ja4 jaN jdj u.2 u.1 jkn jjZ jhY cyI jiL ji2 cyI jjH jdj jj4 jlV jj4 cyI jkE) : va_W))) (va_A (qsb a0 jhY ji2 jlU jmo ja4 jaN jdj jkY jl7 jkn jjZ jhY cyI jiL ji2 cyI jjH jdj jj4 jlV jj4 cyI jkE) sz)) 0 0 (va_A (qsb a0 jhY ji2 jlU jmo ja4 jaN jdj jkY jl7 jkn jjZ jhY cyI jiL ji2 cyI jjH jdj jj4 jlV jj4 cyI jkE) sz) := by
  refine Met.ofW (cc := cX3_formsFor) (maxL := 4) (ret := (some .int)) (by decide) rfl ?_
  intro p e s m args below meth c s₁ B hml hv
  obtain ⟨rfl, hsz, hP, hK, hD0, hNw⟩ := hv
  have hx := B.exec
  have hb := B.bytes
  have hr := B.returns
  have hts := atoms_spec (ws := wsX3_formsFor) B.pre
  have hown : s.vm.findClass RX3 = some m.cls := findClass_of_methodNamed B.named
  have hlocks := B.notSynchronized
  subst hsz
  have hD := hD0.self (sz := s.heap.size)
  generalize hAe : va_A (qsb a0 jhY ji2 jlU jmo ja4 jaN jdj jkY jl7 jkn jjZ jhY cyI jiL ji2 cyI jjH jdj jj4 jlV jj4 cyI jkE) s.heap.size = A at hD ⊢
  have hA : ∀ q : Nat, s.heap.size ≤ q → A q := fun q h => by rw [← hAe]; exact Or.inr h
  have hS : va_S A s.heap s.heap [] := va_S.rf
  have hP : va_P (dC, dI) vwCl (qsb a0 jhY ji2 jlU jmo ja4 jaN jdj jkY jl7 jkn jjZ jhY cyI jiL ji2 cyI jjH jdj jj4 jlV jj4 cyI jkE) s.heap := hP
  have hl := lv_entry ([.ref a0, .int p1]) (n := 4) (nbq rfl)
  rw [lg_entry_eq]
  generalize (lg_sl ([.ref a0, .int p1]) ++ List.replicate (4 - (lg_sl ([.ref a0, .int p1])).length) Slot.unset).toArray = ls at hl ⊢
  have hl : lv_has ls 4 [(0, .ref a0), (1, .int p1)] := hl
  have C0 : cfx p s m _ meth c cX3_formsFor (some .int) wsX3_formsFor RX3 4 A (dC, dI) (kT cyB cyI cyJ cyP) := ⟨hx, hb, hr, hts, hown, hlocks, hml, hA, hK, hNw⟩
  clear hAe
  obtain ⟨H, hH⟩ : ∃ H, H = s.heap := ⟨_, rfl⟩
  rw [← hH] at hP ⊢
  have hS : va_S A s.heap H [] := by rw [hH]; exact va_S.rf
  have hS := hS
  refine lv_iconst (v := 0) hx hb (qaa qfK 0 rfl) (by decide) ?_
  refine lv_istore_n (lv' := [(2, .int 0), (0, .ref a0), (1, .int p1)]) hx hb (qaa qfK 1 rfl) rfl hl (by decide) rfl (fun ls hl => ?_)
  refine lv_iconst (v := 0) hx hb (qaa qfK 2 rfl) (by decide) ?_
  refine lv_istore_n (lv' := [(3, .int 0), (2, .int 0), (0, .ref a0), (1, .int p1)]) hx hb (qaa qfK 3 rfl) rfl hl (by decide) rfl (fun ls hl => ?_)
  obtain ⟨n9, hw⟩ := hw
  exact qasA dC dI cyB cyI cyJ cyP a0 jhY ji2 jdj jj4 jlU jmo ja4 jkn jjZ jlV jaN jiL jjH jkE Q C0 n9 _ _ _ jl7 jkY p1 0 0 hP hD hS (lv_sub hl [2, 3, 1, 0] rfl) hw
theorem q2q : ∀ w ∈ u_ws RX1 TX1 4, w ∈ wsX3_settle := uiM qh2 qWc (by decide +kernel)
theorem q2P : ∀ w ∈ u_ws RX2 TX2 12, w ∈ wsX3_settle := uiM qh2 qLp (by decide +kernel)
theorem qqG : ∀ w ∈ u_ws RX3 TX3 11, w ∈ wsX3_settle := uiM qh2 euX3 (by decide +kernel)
theorem qaut : (.fieldLink RX3 15 "MarchHares$Fitting" "sits" "[I" : Cond) ∈ wsX3_settle := qh2 391 (by decide +kernel)
theorem qapK : (.fieldLink RX3 18 "MarchHares$Fitting" "fittingForms" "[I" : Cond) ∈ wsX3_settle := qh2 392 (by decide +kernel)
theorem qY1 : (.fieldLink RX3 24 "MarchHares$Days" "down" "LMarchHares$Down;" : Cond) ∈ wsX3_settle := qh2 3470 (by decide +kernel)
theorem qatp : (.fieldLink RX3 30 "MarchHares$Down" "hares" "I" : Cond) ∈ wsX3_settle := qh2 3471 (by decide +kernel)
theorem qYQ : (.fieldLink RX3 36 "MarchHares$Fitting" "hares" "I" : Cond) ∈ wsX3_settle := qh2 3472 (by decide +kernel)
theorem qapA : (.fieldLink RX3 37 "MarchHares$Down" "forms" "I" : Cond) ∈ wsX3_settle := qh2 3473 (by decide +kernel)
theorem qZR : (.fieldLink RX3 40 "MarchHares$Fitting" "forms" "I" : Cond) ∈ wsX3_settle := qh2 3474 (by decide +kernel)
theorem qaqO : (.fieldLink RX3 41 "MarchHares$Fitting" "book" "LMarchHares$Book;" : Cond) ∈ wsX3_settle := qh2 3475 (by decide +kernel)
theorem qasa : (.fieldLink RX3 45 "MarchHares$Fitting" "many" "I" : Cond) ∈ wsX3_settle := qh2 3476 (by decide +kernel)
theorem qasz : (.fieldLink RX3 48 "MarchHares$Fitting" "first" "I" : Cond) ∈ wsX3_settle := qh2 3477 (by decide +kernel)
theorem qayb : (.fieldLink RX3 9 "MarchHares$Fitting" "seated" "[I" : Cond) ∈ wsX3_settle := qh2 390 (by decide +kernel)
set_option maxHeartbeats 4000000 in
set_option maxRecDepth 100000 in
theorem qYU {p : Program} {l : Launch} {e : Env} {s : State} {m : MethodId} {args : Array Value} {below : List Frame} {meth : Method} {c : Code} {A : Nat → Prop} (dC : Nat → ClassId) (dI : Nat → Nat → Nat) (cyB cyI cyJ cyP : ClassId) (a0 a1 a2 jjN jhY jjO ji2 jhn jm6 : Nat) (jmo jpg jkn jjZ jjP jn2 jm3 jm4 jky jkz jkA jkX jkd jkB jke jnl joz : Value) (jjm jh6 : Int32) (jkO jnQ : NI) (Q : Int32 → Int32 → Int32 → Int32 → NI → NI → NI → Prop) (K69 : Int32 → Int32 → Int32 → Int32 → NI → NI → NI → Int32 → Prop) (hK69 : ∀ (H : Heap) (locs : List Loc) (ls : Array Slot) (jaC jaN jkY jl7 : Int32) (jiL jjH jim : NI) (l3 : Int32), va_P (dC, dI) vwCl (qqq a0 jhY ji2 jhn jmo jaC jaN a2 jkY jl7 jkn jjZ a1 jjO jjP jjN jn2 jjN jm3 jm4 jky jkz jkA jkX jkd jkB jjm jh6 jke jnl jjO cyI jkO jhY cyI jiL ji2 cyI jjH a2 jm6 joz jm6 cyI jnQ jhn cyI jim) H → va_D A (qqq a0 jhY ji2 jhn jmo jaC jaN a2 jkY jl7 jkn jjZ a1 jjO jjP jjN jn2 jjN jm3 jm4 jky jkz jkA jkX jkd jkB jjm jh6 jke jnl jjO cyI jkO jhY cyI jiL ji2 cyI jjH a2 jm6 joz jm6 cyI jnQ jhn cyI jim) → va_S A s.heap H locs → lv_has ls 4 [(0, .ref a0), (1, .ref a1), (3, .int l3)] → K69 jaC jaN jkY jl7 jiL jjH jim l3 → W p l e (headSpec wsX3_settle ({ frames := 3, cells := 0, slots := 0, locals := 69 })).room s m args below meth c H locs 0 0 (MQ below (va_Qv (fun (u : Int32 × Int32 × Int32 × Int32 × NI × NI × NI) => Q u.1 u.2.1 u.2.2.1 u.2.2.2.1 u.2.2.2.2.1 u.2.2.2.2.2.1 u.2.2.2.2.2.2) (cB (dC, dI) (kT cyB cyI cyJ cyP) A (fun u : Int32 × Int32 × Int32 × Int32 × NI × NI × NI => ((qqq a0 jhY ji2 jhn jmo u.1 u.2.1 a2 u.2.2.1 u.2.2.2.1 jkn jjZ a1 jjO jjP jjN jn2 jjN jm3 jm4 jky jkz jkA jkX jkd jkB jjm jh6 jke jnl jjO cyI jkO jhY cyI u.2.2.2.2.1 ji2 cyI u.2.2.2.2.2.1 a2 jm6 joz jm6 cyI jnQ jhn cyI u.2.2.2.2.2.2) : va_W))) A) args s 0 0 A) (F0 m 69 ls [])) (C0 : cfx p s m args meth c cX3_settle none wsX3_settle RX3 4 A (dC, dI) (kT cyB cyI cyJ cyP)) : ∀ (H : Heap) (locs : List Loc) (ls : Array Slot) (jaC jaN jkY jl7 : Int32) (jiL jjH jim : NI) (l3 s1 s2 : Int32), va_P (dC, dI) vwCl (qqq a0 jhY ji2 jhn jmo jaC jaN a2 jkY jl7 jkn jjZ a1 jjO jjP jjN jn2 jjN jm3 jm4 jky jkz jkA jkX jkd jkB jjm jh6 jke jnl jjO cyI jkO jhY cyI jiL ji2 cyI jjH a2 jm6 joz jm6 cyI jnQ jhn cyI jim) H → va_D A (qqq a0 jhY ji2 jhn jmo jaC jaN a2 jkY jl7 jkn jjZ a1 jjO jjP jjN jn2 jjN jm3 jm4 jky jkz jkA jkX jkd jkB jjm jh6 jke jnl jjO cyI jkO jhY cyI jiL ji2 cyI jjH a2 jm6 joz jm6 cyI jnQ jhn cyI jim) → va_S A s.heap H locs → lv_has ls 4 [(0, .ref a0), (1, .ref a1), (3, .int l3)] → qM7 jjm jh6 jkO jnQ Q K69 jaC jaN jkY jl7 jiL jjH jim l3 s1 s2 → W p l e (headSpec wsX3_settle ({ frames := 3, cells := 0, slots := 0, locals := 69 })).room s m args below meth c H locs 0 0 (MQ below (va_Qv (fun (u : Int32 × Int32 × Int32 × Int32 × NI × NI × NI) => Q u.1 u.2.1 u.2.2.1 u.2.2.2.1 u.2.2.2.2.1 u.2.2.2.2.2.1 u.2.2.2.2.2.2) (cB (dC, dI) (kT cyB cyI cyJ cyP) A (fun u : Int32 × Int32 × Int32 × Int32 × NI × NI × NI => ((qqq a0 jhY ji2 jhn jmo u.1 u.2.1 a2 u.2.2.1 u.2.2.2.1 jkn jjZ a1 jjO jjP jjN jn2 jjN jm3 jm4 jky jkz jkA jkX jkd jkB jjm jh6 jke jnl jjO cyI jkO jhY cyI u.2.2.2.2.1 ji2 cyI u.2.2.2.2.2.1 a2 jm6 joz jm6 cyI jnQ jhn cyI u.2.2.2.2.2.2) : va_W))) A) args s 0 0 A) (F0 m 110 ls [.int s2, .int s1, .ref jhn]) := by
  obtain ⟨hx, hb, hr, hts, hown, hlocks, hml, hA, hK, hNw⟩ := id C0
  intro H locs ls jaC jaN jkY jl7 jiL jjH jim l3 s1 s2 hP hD hS hl hw
  obtain ⟨hi9, hw⟩ := hw
  refine va_iast hx hb hK hP hD hS 8 1 rfl rfl hi9 (qaa qgX 12 rfl) (fun H locs hP hD hS => ?_)
  obtain ⟨f14, ef14⟩ : ∃ y : NI, y = upd jim s1.toNatClampNeg s2 := ⟨_, rfl⟩
  have hw := hw f14 ef14
  have hP : va_P (dC, dI) vwCl (qqq a0 jhY ji2 jhn jmo jaC jaN a2 jkY jl7 jkn jjZ a1 jjO jjP jjN jn2 jjN jm3 jm4 jky jkz jkA jkX jkd jkB jjm jh6 jke jnl jjO cyI jkO jhY cyI jiL ji2 cyI jjH a2 jm6 joz jm6 cyI jnQ jhn cyI f14) H := by rw [ef14]; exact hP
  have hD : va_D A (qqq a0 jhY ji2 jhn jmo jaC jaN a2 jkY jl7 jkn jjZ a1 jjO jjP jjN jn2 jjN jm3 jm4 jky jkz jkA jkX jkd jkB jjm jh6 jke jnl jjO cyI jkO jhY cyI jiL ji2 cyI jjH a2 jm6 joz jm6 cyI jnQ jhn cyI f14) := by rw [ef14]; exact hD
  obtain ⟨x15, ex15⟩ : ∃ y : Int32, y = l3 + 1 := ⟨_, rfl⟩
  have hw := hw x15 ex15
  refine lv_iinc (v := x15) (lv' := [(3, .int x15), (0, .ref a0), (1, .ref a1)]) hx hb (qaa qgX 13 rfl) hl (k := 2) rfl (by rw [ex15]; rfl) (by decide) rfl (fun ls hl => ?_)
  refine lv_goto (tgt := 69) hx hb (qaa qgX 14 rfl) (by decide) ?_
  exact hK69 _ _ _ jaC jaN jkY jl7 jiL jjH f14 x15 hP hD hS (lv_sub hl [1, 2, 0] rfl) hw
set_option maxHeartbeats 4000000 in
set_option maxRecDepth 100000 in
theorem qawT {p : Program} {l : Launch} {e : Env} {s : State} {m : MethodId} {args : Array Value} {below : List Frame} {meth : Method} {c : Code} {A : Nat → Prop} (dC : Nat → ClassId) (dI : Nat → Nat → Nat) (cyB cyI cyJ cyP : ClassId) (a0 a1 a2 jjN jhY jjO ji2 jhn jm6 : Nat) (jmo jpg jkn jjZ jjP jn2 jm3 jm4 jky jkz jkA jkX jkd jkB jke jnl joz : Value) (jjm jh6 : Int32) (jkO jnQ : NI) (Q : Int32 → Int32 → Int32 → Int32 → NI → NI → NI → Prop) (C0 : cfx p s m args meth c cX3_settle none wsX3_settle RX3 4 A (dC, dI) (kT cyB cyI cyJ cyP)) : ∀ (n : Nat) (H : Heap) (locs : List Loc) (ls : Array Slot) (jaC jaN jkY jl7 : Int32) (jiL jjH jim : NI) (l3 : Int32), va_P (dC, dI) vwCl (qqq a0 jhY ji2 jhn jmo jaC jaN a2 jkY jl7 jkn jjZ a1 jjO jjP jjN jn2 jjN jm3 jm4 jky jkz jkA jkX jkd jkB jjm jh6 jke jnl jjO cyI jkO jhY cyI jiL ji2 cyI jjH a2 jm6 joz jm6 cyI jnQ jhn cyI jim) H → va_D A (qqq a0 jhY ji2 jhn jmo jaC jaN a2 jkY jl7 jkn jjZ a1 jjO jjP jjN jn2 jjN jm3 jm4 jky jkz jkA jkX jkd jkB jjm jh6 jke jnl jjO cyI jkO jhY cyI jiL ji2 cyI jjH a2 jm6 joz jm6 cyI jnQ jhn cyI jim) → va_S A s.heap H locs → lv_has ls 4 [(0, .ref a0), (1, .ref a1), (3, .int l3)] → qv8 jjm jh6 jkO jnQ Q n jaC jaN jkY jl7 jiL jjH jim l3 → W p l e (headSpec wsX3_settle ({ frames := 3, cells := 0, slots := 0, locals := 69 })).room s m args below meth c H locs 0 0 (MQ below (va_Qv (fun (u : Int32 × Int32 × Int32 × Int32 × NI × NI × NI) => Q u.1 u.2.1 u.2.2.1 u.2.2.2.1 u.2.2.2.2.1 u.2.2.2.2.2.1 u.2.2.2.2.2.2) (cB (dC, dI) (kT cyB cyI cyJ cyP) A (fun u : Int32 × Int32 × Int32 × Int32 × NI × NI × NI => ((qqq a0 jhY ji2 jhn jmo u.1 u.2.1 a2 u.2.2.1 u.2.2.2.1 jkn jjZ a1 jjO jjP jjN jn2 jjN jm3 jm4 jky jkz jkA jkX jkd jkB jjm jh6 jke jnl jjO cyI jkO jhY cyI u.2.2.2.2.1 ji2 cyI u.2.2.2.2.2.1 a2 jm6 joz jm6 cyI jnQ jhn cyI u.2.2.2.2.2.2) : va_W))) A) args s 0 0 A) (F0 m 69 ls []) := by
  obtain ⟨hx, hb, hr, hts, hown, hlocks, hml, hA, hK, hNw⟩ := id C0
  intro n
  induction n with
  | zero => intro H locs ls jaC jaN jkY jl7 jiL jjH jim l3 hP hD hS hl hw; exact False.elim hw
  | succ n ih =>
    intro H locs ls jaC jaN jkY jl7 jiL jjH jim l3 hP hD hS hl hw
    refine lv_iload_n hx hb (qaa qg1 5 rfl) rfl (lv_at hl 2 rfl) ?_
    refine lv_aload_n hx hb (qaa qg1 6 rfl) rfl (lv_at hl 0 rfl) ?_
    refine va_get (D := (dC, dI)) (ci := 3) (v := .int jaC) (C := RX3) (T := TX3) (N := 11) hx hb hts qqG hown hK hP 0 rfl rfl 4 (by decide) (hts _ qYQ) (fun _ h9 => h9) rfl (qaa qg1 7 rfl) ?_
    refine lv_icmp_ge (tgt := 117) hx hb (qaa qg1 8 rfl) (by decide) (fun c6 => ?_) (fun c6 => ?_)
    · have hw := hw.1 c6
      exact ((W.vret hx hb hr (fun t ht hW => ⟨⟨(jaC, jaN, jkY, jl7, jiL, jjH, jim), rfl, hw, by rw [ht]; exact hP, va_K.moved hW.alike hK, hD⟩, hS.F ht⟩) hS.2.2 (qaa qgX 15 rfl)))
    · have hw := hw.2 c6
      refine lv_aload_n hx hb (qaa qg1 9 rfl) rfl (lv_at hl 0 rfl) ?_
      refine va_get (D := (dC, dI)) (ci := 3) (v := .ref ji2) (C := RX3) (T := TX3) (N := 11) hx hb hts qqG hown hK hP 0 rfl rfl 1 (by decide) (hts _ qaut) (fun _ h9 => h9) rfl (qaa qg1 10 rfl) ?_
      refine lv_iload_n hx hb (qaa qg1 11 rfl) rfl (lv_at hl 2 rfl) ?_
      refine lv_aload_n hx hb (qaa qg1 12 rfl) rfl (lv_at hl 1 rfl) ?_
      refine lv_iload_n hx hb (qaa qg1 13 rfl) rfl (lv_at hl 2 rfl) ?_
      obtain ⟨hCc, hPc, hDc, hFc⟩ := qac (ws' := (qaOa a1 jjO jjP jjN jn2 jjO cyI jkO)) hP hD hS hA [1, 3] (by decide +kernel) rfl
      refine va_calli (va_runV (As := [.int l3]) (rest := [.int l3, .ref ji2]) ⟨hx, hb, hml, hown, hts⟩ (qvw l dC dI cyB cyI cyJ cyP a1 jjO H.size (jjP) (.ref jjN) (jn2) jkO l3 hw) (cwV 1 hts gX3_settle_X1_sits rfl rfl rfl (by decide +kernel) ⟨nbq rfl, nbq rfl⟩) ⟨qab, va_recv (q := (RX1, TX1, 4)) hK hPc (ci := 1) (q0 := 0) rfl rfl, qae hPc hK hDc hNw⟩ rfl rfl hl.1 rfl (lv_room (nbq rfl)) (qaa qg1 14 rfl) ⟨nbq rfl, nbq rfl⟩) hS (fun q _ h => hFc q h) hFc (fun r7 u t H1 locs ht hvm hw hB hz1 hk1 hS => ?_)
      obtain ⟨hP1, hK1, hD1⟩ := hB
      rw [ht] at hP1
      obtain ⟨hP, hD⟩ := qad (wr := (qa6G a0 jhY ji2 jhn jmo jaC jaN a2 jkY jl7 jkn jjZ jjN jm3 jm4 jky jkz jkA jkX jkd jkB jjm jh6 jke jnl jhY cyI jiL ji2 cyI jjH a2 jm6 joz jm6 cyI jnQ jhn cyI jim)) (w1 := (qaOa a1 jjO jjP jjN jn2 jjO cyI jkO)) (wn := (qqq a0 jhY ji2 jhn jmo jaC jaN a2 jkY jl7 jkn jjZ a1 jjO jjP jjN jn2 jjN jm3 jm4 jky jkz jkA jkX jkd jkB jjm jh6 jke jnl jjO cyI jkO jhY cyI jiL ji2 cyI jjH a2 jm6 joz jm6 cyI jnQ jhn cyI jim)) hP hD [1, 3] [0, 2, 4, 5, 6, 7, 8] [0, 7, 1, 8, 2, 3, 4, 5, 6] hCc rfl (by decide +kernel) (by decide +kernel) (by decide +kernel) rfl hk1 hFc hP1 hD1
      generalize H1 = H at hP hS ⊢
      obtain ⟨hi9, hw⟩ := hw
      refine va_iast hx hb hK hP hD hS 5 1 rfl rfl hi9 (qaa qg1 15 rfl) (fun H locs hP hD hS => ?_)
      obtain ⟨f8, ef8⟩ : ∃ y : NI, y = upd jjH l3.toNatClampNeg r7 := ⟨_, rfl⟩
      have hw := hw f8 ef8
      have hP : va_P (dC, dI) vwCl (qqq a0 jhY ji2 jhn jmo jaC jaN a2 jkY jl7 jkn jjZ a1 jjO jjP jjN jn2 jjN jm3 jm4 jky jkz jkA jkX jkd jkB jjm jh6 jke jnl jjO cyI jkO jhY cyI jiL ji2 cyI f8 a2 jm6 joz jm6 cyI jnQ jhn cyI jim) H := by rw [ef8]; exact hP
      have hD : va_D A (qqq a0 jhY ji2 jhn jmo jaC jaN a2 jkY jl7 jkn jjZ a1 jjO jjP jjN jn2 jjN jm3 jm4 jky jkz jkA jkX jkd jkB jjm jh6 jke jnl jjO cyI jkO jhY cyI jiL ji2 cyI f8 a2 jm6 joz jm6 cyI jnQ jhn cyI jim) := by rw [ef8]; exact hD
      refine lv_aload_n hx hb (qaa qgX 0 rfl) rfl (lv_at hl 0 rfl) ?_
      refine va_get (D := (dC, dI)) (ci := 3) (v := .ref jhn) (C := RX3) (T := TX3) (N := 11) hx hb hts qqG hown hK hP 0 rfl rfl 2 (by decide) (hts _ qapK) (fun _ h9 => h9) rfl (qaa qgX 1 rfl) ?_
      refine lv_iload_n hx hb (qaa qgX 2 rfl) rfl (lv_at hl 2 rfl) ?_
      refine lv_aload_n hx hb (qaa qgX 3 rfl) rfl (lv_at hl 1 rfl) ?_
      refine lv_iload_n hx hb (qaa qgX 4 rfl) rfl (lv_at hl 2 rfl) ?_
      obtain ⟨hCc, hPc, hDc, hFc⟩ := qac (ws' := (qaOa a1 jjO jjP jjN jn2 jjO cyI jkO)) hP hD hS hA [1, 3] (by decide +kernel) rfl
      refine va_calli (va_runV (As := [.int l3]) (rest := [.int l3, .ref jhn]) ⟨hx, hb, hml, hown, hts⟩ (qia l dC dI cyB cyI cyJ cyP a1 jjO H.size (jjP) (.ref jjN) (jn2) jkO l3 hw) (cwV 1 hts gX3_settle_X1_isCaught rfl rfl rfl (by decide +kernel) ⟨nbq rfl, nbq rfl⟩) ⟨qab, va_recv (q := (RX1, TX1, 4)) hK hPc (ci := 1) (q0 := 0) rfl rfl, qae hPc hK hDc hNw⟩ rfl rfl hl.1 rfl (lv_room (nbq rfl)) (qaa qgX 5 rfl) ⟨nbq rfl, nbq rfl⟩) hS (fun q _ h => hFc q h) hFc (fun r9 u t H1 locs ht hvm hw hB hz1 hk1 hS => ?_)
      obtain ⟨hP1, hK1, hD1⟩ := hB
      rw [ht] at hP1
      obtain ⟨hP, hD⟩ := qad (wr := (qa6G a0 jhY ji2 jhn jmo jaC jaN a2 jkY jl7 jkn jjZ jjN jm3 jm4 jky jkz jkA jkX jkd jkB jjm jh6 jke jnl jhY cyI jiL ji2 cyI f8 a2 jm6 joz jm6 cyI jnQ jhn cyI jim)) (w1 := (qaOa a1 jjO jjP jjN jn2 jjO cyI jkO)) (wn := (qqq a0 jhY ji2 jhn jmo jaC jaN a2 jkY jl7 jkn jjZ a1 jjO jjP jjN jn2 jjN jm3 jm4 jky jkz jkA jkX jkd jkB jjm jh6 jke jnl jjO cyI jkO jhY cyI jiL ji2 cyI f8 a2 jm6 joz jm6 cyI jnQ jhn cyI jim)) hP hD [1, 3] [0, 2, 4, 5, 6, 7, 8] [0, 7, 1, 8, 2, 3, 4, 5, 6] hCc rfl (by decide +kernel) (by decide +kernel) (by decide +kernel) rfl hk1 hFc hP1 hD1
      generalize H1 = H at hP hS ⊢
      refine lv_if_eq (tgt := 105) hx hb (qaa qgX 6 rfl) (by decide) (fun c10 => ?_) (fun c10 => ?_)
      · have hw := hw.1 c10
        refine lv_aload_n hx hb (qaa qgX 9 rfl) rfl (lv_at hl 0 rfl) ?_
        refine lv_iload_n hx hb (qaa qgX 10 rfl) rfl (lv_at hl 2 rfl) ?_
        obtain ⟨hCc, hPc, hDc, hFc⟩ := qac (ws' := (qa9C a0 jhY ji2 jhn jmo jaC jaN a2 jkY jl7 jkn jjZ jhY cyI jiL ji2 cyI f8 a2 jm6 joz jm6 cyI jnQ)) hP hD hS hA [0, 4, 5, 6, 7] (by decide +kernel) rfl
        refine va_calli (va_runV (As := [.int l3]) (rest := [.int l3, .ref jhn]) ⟨hx, hb, hml, hown, hts⟩ (qaJg l dC dI cyB cyI cyJ cyP a0 jhY ji2 a2 jm6 H.size (.ref jhn) (jmo) (.int jaC) (jkn) (jjZ) (joz) jaN jiL f8 jnQ jl7 jkY l3 hw) (cwV 1 hts gX3_settle_X3_formsFor rfl rfl rfl (by decide +kernel) ⟨nbq rfl, nbq rfl⟩) ⟨qab, va_recv (q := (RX3, TX3, 11)) hK hPc (ci := 3) (q0 := 0) rfl rfl, qae hPc hK hDc hNw⟩ rfl rfl hl.1 rfl (lv_room (nbq rfl)) (qaa qgX 11 rfl) ⟨nbq rfl, nbq rfl⟩) hS (fun q _ h => hFc q h) hFc (fun r13 u t H1 locs ht hvm hw hB hz1 hk1 hS => ?_)
        obtain ⟨x11, x12⟩ := u
        obtain ⟨hP1, hK1, hD1⟩ := hB
        rw [ht] at hP1
        obtain ⟨hP, hD⟩ := qad (wr := [(a1, .inr (1, [.ref jjO, jjP, .ref jjN, jn2])), (jjN, .inr (2, [jm3, jm4, jky, jkz, jkA, jkX, jkd, jkB, .int jjm, .int jh6, jke, jnl])), (jjO, .inl (cyI, 64, .inl jkO)), (jhn, .inl (cyI, 6, .inl jim))]) (w1 := (qa9C a0 jhY ji2 jhn jmo jaC jaN a2 x12 x11 jkn jjZ jhY cyI jiL ji2 cyI f8 a2 jm6 joz jm6 cyI jnQ)) (wn := (qqq a0 jhY ji2 jhn jmo jaC jaN a2 x12 x11 jkn jjZ a1 jjO jjP jjN jn2 jjN jm3 jm4 jky jkz jkA jkX jkd jkB jjm jh6 jke jnl jjO cyI jkO jhY cyI jiL ji2 cyI f8 a2 jm6 joz jm6 cyI jnQ jhn cyI jim)) hP hD [0, 4, 5, 6, 7] [1, 2, 3, 8] [4, 0, 1, 2, 5, 6, 7, 8, 3] hCc rfl (by decide +kernel) (by decide +kernel) (by decide +kernel) rfl hk1 hFc hP1 hD1
        generalize H1 = H at hP hS ⊢
        exact qYU dC dI cyB cyI cyJ cyP a0 a1 a2 jjN jhY jjO ji2 jhn jm6 jmo jpg jkn jjZ jjP jn2 jm3 jm4 jky jkz jkA jkX jkd jkB jke jnl joz jjm jh6 jkO jnQ Q (qv8 jjm jh6 jkO jnQ Q n) ih C0 _ _ _ jaC jaN x12 x11 jiL f8 jim l3 l3 r13 hP hD hS (lv_sub hl [0, 1, 2] rfl) hw
      · have hw := hw.2 c10
        refine lv_iconst (v := 0) hx hb (qaa qgX 7 rfl) (by decide) ?_
        refine lv_goto (tgt := 110) hx hb (qaa qgX 8 rfl) (by decide) ?_
        exact qYU dC dI cyB cyI cyJ cyP a0 a1 a2 jjN jhY jjO ji2 jhn jm6 jmo jpg jkn jjZ jjP jn2 jm3 jm4 jky jkz jkA jkX jkd jkB jke jnl joz jjm jh6 jkO jnQ Q (qv8 jjm jh6 jkO jnQ Q n) ih C0 _ _ _ jaC jaN jkY jl7 jiL f8 jim l3 l3 0 hP hD hS (lv_sub hl [0, 1, 2] rfl) hw
set_option maxHeartbeats 4000000 in
set_option maxRecDepth 100000 in
theorem qaEw {p : Program} {l : Launch} {e : Env} {s : State} {m : MethodId} {args : Array Value} {below : List Frame} {meth : Method} {c : Code} {A : Nat → Prop} (dC : Nat → ClassId) (dI : Nat → Nat → Nat) (cyB cyI cyJ cyP : ClassId) (a0 a1 a2 jjN jhY jjO ji2 jhn jm6 : Nat) (jmo jpg jkn jjZ jjP jn2 jm3 jm4 jky jkz jkA jkX jkd jkB jke jnl joz : Value) (jjm jh6 : Int32) (jkO jnQ : NI) (Q : Int32 → Int32 → Int32 → Int32 → NI → NI → NI → Prop) (C0 : cfx p s m args meth c cX3_settle none wsX3_settle RX3 4 A (dC, dI) (kT cyB cyI cyJ cyP)) : ∀ (n : Nat) (H : Heap) (locs : List Loc) (ls : Array Slot) (jaC jaN jkY jl7 : Int32) (jiL jjH jim : NI) (l3 : Int32), va_P (dC, dI) vwCl (qqq a0 jhY ji2 jhn jmo jaC jaN a2 jkY jl7 jkn jjZ a1 jjO jjP jjN jn2 jjN jm3 jm4 jky jkz jkA jkX jkd jkB jjm jh6 jke jnl jjO cyI jkO jhY cyI jiL ji2 cyI jjH a2 jm6 joz jm6 cyI jnQ jhn cyI jim) H → va_D A (qqq a0 jhY ji2 jhn jmo jaC jaN a2 jkY jl7 jkn jjZ a1 jjO jjP jjN jn2 jjN jm3 jm4 jky jkz jkA jkX jkd jkB jjm jh6 jke jnl jjO cyI jkO jhY cyI jiL ji2 cyI jjH a2 jm6 joz jm6 cyI jnQ jhn cyI jim) → va_S A s.heap H locs → lv_has ls 4 [(0, .ref a0), (1, .ref a1), (3, .int l3)] → qIA jjm jh6 jkO jnQ Q n jaC jaN jkY jl7 jiL jjH jim l3 → W p l e (headSpec wsX3_settle ({ frames := 3, cells := 0, slots := 0, locals := 69 })).room s m args below meth c H locs 0 0 (MQ below (va_Qv (fun (u : Int32 × Int32 × Int32 × Int32 × NI × NI × NI) => Q u.1 u.2.1 u.2.2.1 u.2.2.2.1 u.2.2.2.2.1 u.2.2.2.2.2.1 u.2.2.2.2.2.2) (cB (dC, dI) (kT cyB cyI cyJ cyP) A (fun u : Int32 × Int32 × Int32 × Int32 × NI × NI × NI => ((qqq a0 jhY ji2 jhn jmo u.1 u.2.1 a2 u.2.2.1 u.2.2.2.1 jkn jjZ a1 jjO jjP jjN jn2 jjN jm3 jm4 jky jkz jkA jkX jkd jkB jjm jh6 jke jnl jjO cyI jkO jhY cyI u.2.2.2.2.1 ji2 cyI u.2.2.2.2.2.1 a2 jm6 joz jm6 cyI jnQ jhn cyI u.2.2.2.2.2.2) : va_W))) A) args s 0 0 A) (F0 m 39 ls []) := by
  obtain ⟨hx, hb, hr, hts, hown, hlocks, hml, hA, hK, hNw⟩ := id C0
  intro n
  induction n with
  | zero => intro H locs ls jaC jaN jkY jl7 jiL jjH jim l3 hP hD hS hl hw; exact False.elim hw
  | succ n ih =>
    intro H locs ls jaC jaN jkY jl7 jiL jjH jim l3 hP hD hS hl hw
    refine lv_iload_n hx hb (qaa qhL 5 rfl) rfl (lv_at hl 2 rfl) ?_
    refine lv_aload_n hx hb (qaa qhL 6 rfl) rfl (lv_at hl 0 rfl) ?_
    refine va_get (D := (dC, dI)) (ci := 3) (v := .int jaN) (C := RX3) (T := TX3) (N := 11) hx hb hts qqG hown hK hP 0 rfl rfl 5 (by decide) (hts _ qZR) (fun _ h9 => h9) rfl (qaa qhL 7 rfl) ?_
    refine lv_icmp_ge (tgt := 67) hx hb (qaa qhL 8 rfl) (by decide) (fun c1 => ?_) (fun c1 => ?_)
    · have hw := hw.1 c1
      refine lv_iconst (v := 0) hx hb (qaa qg1 3 rfl) (by decide) ?_
      refine lv_istore_n (lv' := [(3, .int 0), (0, .ref a0), (1, .ref a1)]) hx hb (qaa qg1 4 rfl) rfl hl (by decide) rfl (fun ls hl => ?_)
      obtain ⟨n9, hw⟩ := hw
      exact qawT dC dI cyB cyI cyJ cyP a0 a1 a2 jjN jhY jjO ji2 jhn jm6 jmo jpg jkn jjZ jjP jn2 jm3 jm4 jky jkz jkA jkX jkd jkB jke jnl joz jjm jh6 jkO jnQ Q C0 n9 _ _ _ jaC jaN jkY jl7 jiL jjH jim 0 hP hD hS (lv_sub hl [1, 2, 0] rfl) hw
    · have hw := hw.2 c1
      refine lv_aload_n hx hb (qaa qhL 9 rfl) rfl (lv_at hl 0 rfl) ?_
      refine va_get (D := (dC, dI)) (ci := 3) (v := .ref jhY) (C := RX3) (T := TX3) (N := 11) hx hb hts qqG hown hK hP 0 rfl rfl 0 (by decide) (hts _ qayb) (fun _ h9 => h9) rfl (qaa qhL 10 rfl) ?_
      refine lv_iload_n hx hb (qaa qhL 11 rfl) rfl (lv_at hl 2 rfl) ?_
      refine lv_aload_n hx hb (qaa qhL 12 rfl) rfl (lv_at hl 1 rfl) ?_
      refine lv_iload_n hx hb (qaa qhL 13 rfl) rfl (lv_at hl 2 rfl) ?_
      obtain ⟨hCc, hPc, hDc, hFc⟩ := qac (ws' := (qa5E a1 jjO jjP jjN jn2 jjN jm3 jm4 jky jkz jkA jkX jkd jkB jjm jh6 jke jnl jjO cyI jkO)) hP hD hS hA [1, 2, 3] (by decide +kernel) rfl
      refine va_calli (va_runV (As := [.int l3]) (rest := [.int l3, .ref jhY]) ⟨hx, hb, hml, hown, hts⟩ (qTn l dC dI cyB cyI cyJ cyP a1 jjN jjO H.size (jjP) (jn2) (jm3) (jm4) (jky) (jkz) (jkA) (jkX) (jkd) (jkB) (.int jjm) (jke) (jnl) jh6 jkO l3 hw) (cwV 1 hts gX3_settle_X1_seatedIn rfl rfl rfl (by decide +kernel) ⟨nbq rfl, nbq rfl⟩) ⟨qab, va_recv (q := (RX1, TX1, 4)) hK hPc (ci := 1) (q0 := 0) rfl rfl, qae hPc hK hDc hNw⟩ rfl rfl hl.1 rfl (lv_room (nbq rfl)) (qaa qhL 14 rfl) ⟨nbq rfl, nbq rfl⟩) hS (fun q _ h => hFc q h) hFc (fun r2 u t H1 locs ht hvm hw hB hz1 hk1 hS => ?_)
      obtain ⟨hP1, hK1, hD1⟩ := hB
      rw [ht] at hP1
      obtain ⟨hP, hD⟩ := qad (wr := [(a0, .inr (3, [.ref jhY, .ref ji2, .ref jhn, jmo, .int jaC, .int jaN, .ref a2, .int jkY, .int jl7, jkn, jjZ])), (jhY, .inl (cyI, 8, .inl jiL)), (ji2, .inl (cyI, 6, .inl jjH)), (a2, .inr (0, [.ref jm6, joz])), (jm6, .inl (cyI, 8, .inl jnQ)), (jhn, .inl (cyI, 6, .inl jim))]) (w1 := (qa5E a1 jjO jjP jjN jn2 jjN jm3 jm4 jky jkz jkA jkX jkd jkB jjm jh6 jke jnl jjO cyI jkO)) (wn := (qqq a0 jhY ji2 jhn jmo jaC jaN a2 jkY jl7 jkn jjZ a1 jjO jjP jjN jn2 jjN jm3 jm4 jky jkz jkA jkX jkd jkB jjm jh6 jke jnl jjO cyI jkO jhY cyI jiL ji2 cyI jjH a2 jm6 joz jm6 cyI jnQ jhn cyI jim)) hP hD [1, 2, 3] [0, 4, 5, 6, 7, 8] [0, 6, 7, 8, 1, 2, 3, 4, 5] hCc rfl (by decide +kernel) (by decide +kernel) (by decide +kernel) rfl hk1 hFc hP1 hD1
      generalize H1 = H at hP hS ⊢
      obtain ⟨hCc, hPc, hDc, hFc⟩ := qac (ws' := []) hP hD hS hA [] (by decide +kernel) rfl
      refine va_calli (va_runS (As := [.int r2]) (rest := [.int l3, .ref jhY]) ⟨hx, hb, hml, hown, hts⟩ (qx1 l dC dI cyB cyI cyJ cyP H.size r2 hw) (va_cwS 1 hts gX3_settle_J6_bitCount_0f7a4 rfl rfl rfl (by decide +kernel) ⟨nbq rfl, nbq rfl⟩) ⟨qab, qae hPc hK hDc hNw⟩ rfl rfl hl.1 rfl (lv_room (nbq rfl)) (qaa qhL 15 rfl) ⟨nbq rfl, nbq rfl⟩) hS (fun q _ h => hFc q h) hFc (fun r3 u t H1 locs ht hvm hw hB hz1 hk1 hS => ?_)
      obtain ⟨hP1, hK1, hD1⟩ := hB
      rw [ht] at hP1
      obtain ⟨hP, hD⟩ := qah (wr := (qqq a0 jhY ji2 jhn jmo jaC jaN a2 jkY jl7 jkn jjZ a1 jjO jjP jjN jn2 jjN jm3 jm4 jky jkz jkA jkX jkd jkB jjm jh6 jke jnl jjO cyI jkO jhY cyI jiL ji2 cyI jjH a2 jm6 joz jm6 cyI jnQ jhn cyI jim)) (w1 := []) (wn := (qqq a0 jhY ji2 jhn jmo jaC jaN a2 jkY jl7 jkn jjZ a1 jjO jjP jjN jn2 jjN jm3 jm4 jky jkz jkA jkX jkd jkB jjm jh6 jke jnl jjO cyI jkO jhY cyI jiL ji2 cyI jjH a2 jm6 joz jm6 cyI jnQ jhn cyI jim)) hP hD [] [0, 1, 2, 3, 4, 5, 6, 7, 8] hCc rfl (by decide +kernel) (by decide +kernel) rfl hk1 hFc hP1 hD1
      generalize H1 = H at hP hS ⊢
      obtain ⟨hi9, hw⟩ := hw
      refine va_iast hx hb hK hP hD hS 4 1 rfl rfl hi9 (qaa qg1 0 rfl) (fun H locs hP hD hS => ?_)
      obtain ⟨f4, ef4⟩ : ∃ y : NI, y = upd jiL l3.toNatClampNeg r3 := ⟨_, rfl⟩
      have hw := hw f4 ef4
      have hP : va_P (dC, dI) vwCl (qqq a0 jhY ji2 jhn jmo jaC jaN a2 jkY jl7 jkn jjZ a1 jjO jjP jjN jn2 jjN jm3 jm4 jky jkz jkA jkX jkd jkB jjm jh6 jke jnl jjO cyI jkO jhY cyI f4 ji2 cyI jjH a2 jm6 joz jm6 cyI jnQ jhn cyI jim) H := by rw [ef4]; exact hP
      have hD : va_D A (qqq a0 jhY ji2 jhn jmo jaC jaN a2 jkY jl7 jkn jjZ a1 jjO jjP jjN jn2 jjN jm3 jm4 jky jkz jkA jkX jkd jkB jjm jh6 jke jnl jjO cyI jkO jhY cyI f4 ji2 cyI jjH a2 jm6 joz jm6 cyI jnQ jhn cyI jim) := by rw [ef4]; exact hD
      obtain ⟨x5, ex5⟩ : ∃ y : Int32, y = l3 + 1 := ⟨_, rfl⟩
      have hw := hw x5 ex5
      refine lv_iinc (v := x5) (lv' := [(3, .int x5), (0, .ref a0), (1, .ref a1)]) hx hb (qaa qg1 1 rfl) hl (k := 2) rfl (by rw [ex5]; rfl) (by decide) rfl (fun ls hl => ?_)
      refine lv_goto (tgt := 39) hx hb (qaa qg1 2 rfl) (by decide) ?_
      exact ih _ _ _ jaC jaN jkY jl7 f4 jjH jim x5 hP hD hS (lv_sub hl [1, 2, 0] rfl) hw
set_option maxHeartbeats 4000000 in
set_option maxRecDepth 100000 in
theorem qan5 (l : Launch) (dC : Nat → ClassId) (dI : Nat → Nat → Nat) (cyB cyI cyJ cyP : ClassId) (a0 a1 a2 jjN jhY jjO ji2 jhn jm6 sz : Nat) (jmo jpg jkn jjZ jjP jn2 jm3 jm4 jky jkz jkA jkX jkd jkB jke jnl joz : Value) (jjm jh6 : Int32) (jkO jnQ : NI) (jaC jaN jkY jl7 : Int32) (jiL jjH jim : NI) {Q : Int32 → Int32 → Int32 → Int32 → NI → NI → NI → Prop} (hw : qRQ jjm jh6 jkO jnQ jaC jaN jkY jl7 jiL jjH jim Q) : Met l yX3_settle wsX3_settle ({ frames := 3, cells := 0, slots := 0, locals := 69 }) (va_Pc [.ref a0, .ref a1, .ref a2] (cPc (dC, dI) (kT cyB cyI cyJ cyP) (qJD a0 jhY ji2 jhn jmo jaC jaN jpg jkY jl7 jkn jjZ a1 jjO jjP jjN jn2 jjN jm3 jm4 jky jkz jkA jkX jkd jkB jjm jh6 jke jnl jjO cyI jkO jhY cyI jiL ji2 cyI jjH a2 jm6 joz jm6 cyI jnQ jhn cyI jim) sz)) (va_Qv (fun (u : Int32 × Int32 × Int32 × Int32 × NI × NI × NI) => Q u.1 u.2.1 u.2.2.1 u.2.2.2.1 u.2.2.2.2.1 u.2.2.2.2.2.1 u.2.2.2.2.2.2) (cB (dC, dI) (kT cyB cyI cyJ cyP) (va_A (qJD a0 jhY ji2 jhn jmo jaC jaN jpg jkY jl7 jkn jjZ a1 jjO jjP jjN jn2 jjN jm3 jm4 jky jkz jkA jkX jkd jkB jjm jh6 jke jnl jjO cyI jkO jhY cyI jiL ji2 cyI jjH a2 jm6 joz jm6 cyI jnQ jhn cyI jim) sz) (fun u : Int32 × Int32 × Int32 × Int32 × NI × NI × NI => ((qqq a0 jhY ji2 jhn jmo u.1 u.2.1 a2 u.2.2.1 u.2.2.2.1 jkn jjZ a1 jjO jjP jjN jn2 jjN jm3 jm4 jky jkz jkA jkX jkd jkB jjm jh6 jke jnl jjO cyI jkO jhY cyI u.2.2.2.2.1 ji2 cyI u.2.2.2.2.2.1 a2 jm6 joz jm6 cyI jnQ jhn cyI u.2.2.2.2.2.2) : va_W))) (va_A (qJD a0 jhY ji2 jhn jmo jaC jaN jpg jkY jl7 jkn jjZ a1 jjO jjP jjN jn2 jjN jm3 jm4 jky jkz jkA jkX jkd jkB jjm jh6 jke jnl jjO cyI jkO jhY cyI jiL ji2 cyI jjH a2 jm6 joz jm6 cyI jnQ jhn cyI jim) sz)) 0 0 (va_A (qJD a0 jhY ji2 jhn jmo jaC jaN jpg jkY jl7 jkn jjZ a1 jjO jjP jjN jn2 jjN jm3 jm4 jky jkz jkA jkX jkd jkB jjm jh6 jke jnl jjO cyI jkO jhY cyI jiL ji2 cyI jjH a2 jm6 joz jm6 cyI jnQ jhn cyI jim) sz) := by
  refine Met.ofW (cc := cX3_settle) (maxL := 4) (ret := none) (by decide) rfl ?_
  intro p e s m args below meth c s₁ B hml hv
  obtain ⟨rfl, hsz, hP, hK, hD0, hNw⟩ := hv
  have hx := B.exec
  have hb := B.bytes
  have hr := B.returns
  have hts := atoms_spec (ws := wsX3_settle) B.pre
  have hown : s.vm.findClass RX3 = some m.cls := findClass_of_methodNamed B.named
  have hlocks := B.notSynchronized
  subst hsz
  have hD := hD0.self (sz := s.heap.size)
  generalize hAe : va_A (qJD a0 jhY ji2 jhn jmo jaC jaN jpg jkY jl7 jkn jjZ a1 jjO jjP jjN jn2 jjN jm3 jm4 jky jkz jkA jkX jkd jkB jjm jh6 jke jnl jjO cyI jkO jhY cyI jiL ji2 cyI jjH a2 jm6 joz jm6 cyI jnQ jhn cyI jim) s.heap.size = A at hD ⊢
  have hA : ∀ q : Nat, s.heap.size ≤ q → A q := fun q h => by rw [← hAe]; exact Or.inr h
  have hS : va_S A s.heap s.heap [] := va_S.rf
  have hP : va_P (dC, dI) vwCl (qJD a0 jhY ji2 jhn jmo jaC jaN jpg jkY jl7 jkn jjZ a1 jjO jjP jjN jn2 jjN jm3 jm4 jky jkz jkA jkX jkd jkB jjm jh6 jke jnl jjO cyI jkO jhY cyI jiL ji2 cyI jjH a2 jm6 joz jm6 cyI jnQ jhn cyI jim) s.heap := hP
  have hl := lv_entry ([.ref a0, .ref a1, .ref a2]) (n := 4) (nbq rfl)
  rw [lg_entry_eq]
  generalize (lg_sl ([.ref a0, .ref a1, .ref a2]) ++ List.replicate (4 - (lg_sl ([.ref a0, .ref a1, .ref a2])).length) Slot.unset).toArray = ls at hl ⊢
  have hl : lv_has ls 4 [(0, .ref a0), (1, .ref a1), (2, .ref a2)] := hl
  have C0 : cfx p s m _ meth c cX3_settle none wsX3_settle RX3 4 A (dC, dI) (kT cyB cyI cyJ cyP) := ⟨hx, hb, hr, hts, hown, hlocks, hml, hA, hK, hNw⟩
  clear hAe
  obtain ⟨H, hH⟩ : ∃ H, H = s.heap := ⟨_, rfl⟩
  rw [← hH] at hP ⊢
  have hS : va_S A s.heap H [] := by rw [hH]; exact va_S.rf
  have hS := hS
  refine lv_aload_n hx hb (qaa qjn 0 rfl) rfl (lv_at hl 0 rfl) ?_
  refine lv_aload_n hx hb (qaa qjn 1 rfl) rfl (lv_at hl 1 rfl) ?_
  refine va_get (D := (dC, dI)) (ci := 1) (v := .ref jjN) (C := RX1) (T := TX1) (N := 4) hx hb hts q2q hown hK hP 1 rfl rfl 2 (by decide) (hts _ qY1) (fun _ h9 => h9) rfl (qaa qjn 2 rfl) ?_
  refine va_get (D := (dC, dI)) (ci := 2) (v := .int jh6) (C := RX2) (T := TX2) (N := 12) hx hb hts q2P hown hK hP 2 rfl rfl 9 (by decide) (hts _ qatp) (fun _ h9 => h9) rfl (qaa qjn 3 rfl) ?_
  refine va_put (D := (dC, dI)) (ci := 3) (v := .int jh6) (ty := .int) (C := RX3) (T := TX3) (N := 11) hx hb hts qqG tyX3 tyX3_ok nmX3 hown hK hP hD hS 0 rfl rfl 4 (by decide) (hts _ qYQ) (fun _ h9 => h9) rfl (by decide +kernel) rfl rfl (nbq rfl) (qaa qjn 4 rfl) (fun H locs hP hD hS => ?_)
  have hP : va_P (dC, dI) vwCl (qJD a0 jhY ji2 jhn jmo jh6 jaN jpg jkY jl7 jkn jjZ a1 jjO jjP jjN jn2 jjN jm3 jm4 jky jkz jkA jkX jkd jkB jjm jh6 jke jnl jjO cyI jkO jhY cyI jiL ji2 cyI jjH a2 jm6 joz jm6 cyI jnQ jhn cyI jim) H := hP
  have hD : va_D A (qJD a0 jhY ji2 jhn jmo jh6 jaN jpg jkY jl7 jkn jjZ a1 jjO jjP jjN jn2 jjN jm3 jm4 jky jkz jkA jkX jkd jkB jjm jh6 jke jnl jjO cyI jkO jhY cyI jiL ji2 cyI jjH a2 jm6 joz jm6 cyI jnQ jhn cyI jim) := hD
  refine lv_aload_n hx hb (qaa qjn 5 rfl) rfl (lv_at hl 0 rfl) ?_
  refine lv_aload_n hx hb (qaa qjn 6 rfl) rfl (lv_at hl 1 rfl) ?_
  refine va_get (D := (dC, dI)) (ci := 1) (v := .ref jjN) (C := RX1) (T := TX1) (N := 4) hx hb hts q2q hown hK hP 1 rfl rfl 2 (by decide) (hts _ qY1) (fun _ h9 => h9) rfl (qaa qjn 7 rfl) ?_
  refine va_get (D := (dC, dI)) (ci := 2) (v := .int jjm) (C := RX2) (T := TX2) (N := 12) hx hb hts q2P hown hK hP 2 rfl rfl 8 (by decide) (hts _ qapA) (fun _ h9 => h9) rfl (qaa qjn 8 rfl) ?_
  refine va_put (D := (dC, dI)) (ci := 3) (v := .int jjm) (ty := .int) (C := RX3) (T := TX3) (N := 11) hx hb hts qqG tyX3 tyX3_ok nmX3 hown hK hP hD hS 0 rfl rfl 5 (by decide) (hts _ qZR) (fun _ h9 => h9) rfl (by decide +kernel) rfl rfl (nbq rfl) (qaa qjn 9 rfl) (fun H locs hP hD hS => ?_)
  have hP : va_P (dC, dI) vwCl (qJD a0 jhY ji2 jhn jmo jh6 jjm jpg jkY jl7 jkn jjZ a1 jjO jjP jjN jn2 jjN jm3 jm4 jky jkz jkA jkX jkd jkB jjm jh6 jke jnl jjO cyI jkO jhY cyI jiL ji2 cyI jjH a2 jm6 joz jm6 cyI jnQ jhn cyI jim) H := hP
  have hD : va_D A (qJD a0 jhY ji2 jhn jmo jh6 jjm jpg jkY jl7 jkn jjZ a1 jjO jjP jjN jn2 jjN jm3 jm4 jky jkz jkA jkX jkd jkB jjm jh6 jke jnl jjO cyI jkO jhY cyI jiL ji2 cyI jjH a2 jm6 joz jm6 cyI jnQ jhn cyI jim) := hD
  refine lv_aload_n hx hb (qaa qjn 10 rfl) rfl (lv_at hl 0 rfl) ?_
  refine lv_aload_n hx hb (qaa qjn 11 rfl) rfl (lv_at hl 2 rfl) ?_
  refine va_put (D := (dC, dI)) (ci := 3) (v := .ref a2) (ty := .object "MarchHares$Book") (C := RX3) (T := TX3) (N := 11) hx hb hts qqG tyX3 tyX3_ok nmX3 hown hK hP hD hS 0 rfl rfl 6 (by decide) (hts _ qaqO) (fun _ h9 => h9) rfl (by decide +kernel) rfl rfl (nbq rfl) (qaa qjn 12 rfl) (fun H locs hP hD hS => ?_)
  have hP : va_P (dC, dI) vwCl (qqq a0 jhY ji2 jhn jmo jh6 jjm a2 jkY jl7 jkn jjZ a1 jjO jjP jjN jn2 jjN jm3 jm4 jky jkz jkA jkX jkd jkB jjm jh6 jke jnl jjO cyI jkO jhY cyI jiL ji2 cyI jjH a2 jm6 joz jm6 cyI jnQ jhn cyI jim) H := hP
  have hD : va_D A (qqq a0 jhY ji2 jhn jmo jh6 jjm a2 jkY jl7 jkn jjZ a1 jjO jjP jjN jn2 jjN jm3 jm4 jky jkz jkA jkX jkd jkB jjm jh6 jke jnl jjO cyI jkO jhY cyI jiL ji2 cyI jjH a2 jm6 joz jm6 cyI jnQ jhn cyI jim) := hD
  refine lv_aload_n hx hb (qaa qjn 13 rfl) rfl (lv_at hl 0 rfl) ?_
  refine lv_iconst (v := 0) hx hb (qaa qjn 14 rfl) (by decide) ?_
  refine va_put (D := (dC, dI)) (ci := 3) (v := .int 0) (ty := .int) (C := RX3) (T := TX3) (N := 11) hx hb hts qqG tyX3 tyX3_ok nmX3 hown hK hP hD hS 0 rfl rfl 7 (by decide) (hts _ qasa) (fun _ h9 => h9) rfl (by decide +kernel) rfl rfl (nbq rfl) (qaa qjn 15 rfl) (fun H locs hP hD hS => ?_)
  have hP : va_P (dC, dI) vwCl (qqq a0 jhY ji2 jhn jmo jh6 jjm a2 0 jl7 jkn jjZ a1 jjO jjP jjN jn2 jjN jm3 jm4 jky jkz jkA jkX jkd jkB jjm jh6 jke jnl jjO cyI jkO jhY cyI jiL ji2 cyI jjH a2 jm6 joz jm6 cyI jnQ jhn cyI jim) H := hP
  have hD : va_D A (qqq a0 jhY ji2 jhn jmo jh6 jjm a2 0 jl7 jkn jjZ a1 jjO jjP jjN jn2 jjN jm3 jm4 jky jkz jkA jkX jkd jkB jjm jh6 jke jnl jjO cyI jkO jhY cyI jiL ji2 cyI jjH a2 jm6 joz jm6 cyI jnQ jhn cyI jim) := hD
  refine lv_aload_n hx hb (qaa qhL 0 rfl) rfl (lv_at hl 0 rfl) ?_
  refine lv_iconst (v := (-1)) hx hb (qaa qhL 1 rfl) (by decide) ?_
  refine va_put (D := (dC, dI)) (ci := 3) (v := .int (-1)) (ty := .int) (C := RX3) (T := TX3) (N := 11) hx hb hts qqG tyX3 tyX3_ok nmX3 hown hK hP hD hS 0 rfl rfl 8 (by decide) (hts _ qasz) (fun _ h9 => h9) rfl (by decide +kernel) rfl rfl (nbq rfl) (qaa qhL 2 rfl) (fun H locs hP hD hS => ?_)
  have hP : va_P (dC, dI) vwCl (qqq a0 jhY ji2 jhn jmo jh6 jjm a2 0 (-1) jkn jjZ a1 jjO jjP jjN jn2 jjN jm3 jm4 jky jkz jkA jkX jkd jkB jjm jh6 jke jnl jjO cyI jkO jhY cyI jiL ji2 cyI jjH a2 jm6 joz jm6 cyI jnQ jhn cyI jim) H := hP
  have hD : va_D A (qqq a0 jhY ji2 jhn jmo jh6 jjm a2 0 (-1) jkn jjZ a1 jjO jjP jjN jn2 jjN jm3 jm4 jky jkz jkA jkX jkd jkB jjm jh6 jke jnl jjO cyI jkO jhY cyI jiL ji2 cyI jjH a2 jm6 joz jm6 cyI jnQ jhn cyI jim) := hD
  refine lv_iconst (v := 0) hx hb (qaa qhL 3 rfl) (by decide) ?_
  refine lv_istore_n (lv' := [(3, .int 0), (0, .ref a0), (1, .ref a1), (2, .ref a2)]) hx hb (qaa qhL 4 rfl) rfl hl (by decide) rfl (fun ls hl => ?_)
  obtain ⟨n9, hw⟩ := hw
  exact qaEw dC dI cyB cyI cyJ cyP a0 a1 a2 jjN jhY jjO ji2 jhn jm6 jmo jpg jkn jjZ jjP jn2 jm3 jm4 jky jkz jkA jkX jkd jkB jke jnl joz jjm jh6 jkO jnQ Q C0 n9 _ _ _ jh6 jjm 0 (-1) jiL jjH jim 0 hP hD hS (lv_sub hl [1, 2, 0] rfl) hw
theorem qBS : ∀ w ∈ u_ws RX10 TX10 19, w ∈ wsX10_fits := uiM qyZ qyN (by decide +kernel)
theorem q7f : ∀ w ∈ u_ws RX3 TX3 11, w ∈ wsX10_fits := uiM qyZ euX3 (by decide +kernel)
theorem qatl : (.fieldLink RX10 342 "MarchHares$Fitting" "many" "I" : Cond) ∈ wsX10_fits := qyZ 3464 (by decide +kernel)
theorem qap4 : (.fieldLink RX10 343 "MarchHares$Fitting" "first" "I" : Cond) ∈ wsX10_fits := qyZ 3465 (by decide +kernel)
theorem qayB : (.fieldLink RX10 39 "MarchHares" "lines" "LMarchHares$Book;" : Cond) ∈ wsX10_fits := qyZ 70 (by decide +kernel)
theorem qawh : (.fieldLink RX10 58 "MarchHares" "now" "LMarchHares$Days;" : Cond) ∈ wsX10_fits := qyZ 79 (by decide +kernel)
theorem qQS : (.fieldLink RX10 93 "MarchHares" "fitting" "LMarchHares$Fitting;" : Cond) ∈ wsX10_fits := qyZ 137 (by decide +kernel)
set_option maxHeartbeats 4000000 in
set_option maxRecDepth 100000 in
theorem qaZX (l : Launch) (dC : Nat → ClassId) (dI : Nat → Nat → Nat) (cyB cyI cyJ cyP : ClassId) (a0 jle jaT jg3 jaR jbb jjI jkf jiM jiF sz : Nat) (jaK jfR ja1 jcp jbc ja3 jbH jbO jaq jac jbI jbl jba jaa jbA jnK jnf jm0 jbr jfg jcB jcC jbo jbp jbk jbj jbf jbq jbi jcd jmr : Value) (jbE jbm : Int32) (jbQ jk5 : NI) (jbz jml jmm jmx jmn : Int32) (jmg jmy jlz : NI) (jmC : Value) (p1 : Int32) {E : String → Int32 → Int32 → Int32 → Int32 → Int32 → NI → NI → NI → Value → Prop} {Q : Int32 → Int32 → Int32 → Int32 → Int32 → Int32 → NI → NI → NI → Value → Prop} (hw : q9a jg3 jbE jbm jbQ jk5 jbz jml jmm jmx jmn jmg jmy jlz jmC p1 E Q) : vx_Met l yX10_fits wsX10_fits ({ frames := 8, cells := 1, slots := 6, locals := 164 }) (va_Pc [.ref a0, .int p1] (cPx l (dC, dI) (kT cyB cyI cyJ cyP) (qM2 a0 jaK jfR ja1 jcp jbc jg3 ja3 jbH jaT jbO jaq jac jbI jbl jle jba jaa jbA jbz jle jjI jkf jiF jnK jml jmm jmC jmx jmn jnf jm0 jaT jbb jbr jaR jfg jaR jcB jcC jbo jbp jbk jbj jbf jbq jbE jbm jbi jcd jbb cyI jbQ jjI cyI jmg jkf cyI jmy jg3 jiM jmr jiM cyI jk5 jiF cyI jlz) sz)) (va_Qi (fun (r : Int32) (u : Int32 × Int32 × Int32 × Int32 × Int32 × NI × NI × NI × Value) => Q r u.1 u.2.1 u.2.2.1 u.2.2.2.1 u.2.2.2.2.1 u.2.2.2.2.2.1 u.2.2.2.2.2.2.1 u.2.2.2.2.2.2.2.1 u.2.2.2.2.2.2.2.2) (cB (dC, dI) (kT cyB cyI cyJ cyP) (va_A (qM2 a0 jaK jfR ja1 jcp jbc jg3 ja3 jbH jaT jbO jaq jac jbI jbl jle jba jaa jbA jbz jle jjI jkf jiF jnK jml jmm jmC jmx jmn jnf jm0 jaT jbb jbr jaR jfg jaR jcB jcC jbo jbp jbk jbj jbf jbq jbE jbm jbi jcd jbb cyI jbQ jjI cyI jmg jkf cyI jmy jg3 jiM jmr jiM cyI jk5 jiF cyI jlz) sz) (fun u : Int32 × Int32 × Int32 × Int32 × Int32 × NI × NI × NI × Value => ((qM2 a0 jaK jfR ja1 jcp jbc jg3 ja3 jbH jaT jbO jaq jac jbI jbl jle jba jaa jbA u.1 jle jjI jkf jiF jnK u.2.1 u.2.2.1 u.2.2.2.2.2.2.2.2 u.2.2.2.1 u.2.2.2.2.1 jnf jm0 jaT jbb jbr jaR jfg jaR jcB jcC jbo jbp jbk jbj jbf jbq jbE jbm jbi jcd jbb cyI jbQ jjI cyI u.2.2.2.2.2.1 jkf cyI u.2.2.2.2.2.2.1 jg3 jiM jmr jiM cyI jk5 jiF cyI u.2.2.2.2.2.2.2.1) : va_W))) (va_A (qM2 a0 jaK jfR ja1 jcp jbc jg3 ja3 jbH jaT jbO jaq jac jbI jbl jle jba jaa jbA jbz jle jjI jkf jiF jnK jml jmm jmC jmx jmn jnf jm0 jaT jbb jbr jaR jfg jaR jcB jcC jbo jbp jbk jbj jbf jbq jbE jbm jbi jcd jbb cyI jbQ jjI cyI jmg jkf cyI jmy jg3 jiM jmr jiM cyI jk5 jiF cyI jlz) sz)) (vx_X (fun _ => True) (fun (en : String) (u : Int32 × Int32 × Int32 × Int32 × Int32 × NI × NI × NI × Value) (t : State) => E en u.1 u.2.1 u.2.2.1 u.2.2.2.1 u.2.2.2.2.1 u.2.2.2.2.2.1 u.2.2.2.2.2.2.1 u.2.2.2.2.2.2.2.1 u.2.2.2.2.2.2.2.2 ∧ cB (dC, dI) (kT cyB cyI cyJ cyP) (va_A (qM2 a0 jaK jfR ja1 jcp jbc jg3 ja3 jbH jaT jbO jaq jac jbI jbl jle jba jaa jbA jbz jle jjI jkf jiF jnK jml jmm jmC jmx jmn jnf jm0 jaT jbb jbr jaR jfg jaR jcB jcC jbo jbp jbk jbj jbf jbq jbE jbm jbi jcd jbb cyI jbQ jjI cyI jmg jkf cyI jmy jg3 jiM jmr jiM cyI jk5 jiF cyI jlz) sz) (fun u : Int32 × Int32 × Int32 × Int32 × Int32 × NI × NI × NI × Value => ((qM2 a0 jaK jfR ja1 jcp jbc jg3 ja3 jbH jaT jbO jaq jac jbI jbl jle jba jaa jbA u.1 jle jjI jkf jiF jnK u.2.1 u.2.2.1 u.2.2.2.2.2.2.2.2 u.2.2.2.1 u.2.2.2.2.1 jnf jm0 jaT jbb jbr jaR jfg jaR jcB jcC jbo jbp jbk jbj jbf jbq jbE jbm jbi jcd jbb cyI jbQ jjI cyI u.2.2.2.2.2.1 jkf cyI u.2.2.2.2.2.2.1 jg3 jiM jmr jiM cyI jk5 jiF cyI u.2.2.2.2.2.2.2.1) : va_W)) u t) (va_A (qM2 a0 jaK jfR ja1 jcp jbc jg3 ja3 jbH jaT jbO jaq jac jbI jbl jle jba jaa jbA jbz jle jjI jkf jiF jnK jml jmm jmC jmx jmn jnf jm0 jaT jbb jbr jaR jfg jaR jcB jcC jbo jbp jbk jbj jbf jbq jbE jbm jbi jcd jbb cyI jbQ jjI cyI jmg jkf cyI jmy jg3 jiM jmr jiM cyI jk5 jiF cyI jlz) sz)) 1 6 (va_A (qM2 a0 jaK jfR ja1 jcp jbc jg3 ja3 jbH jaT jbO jaq jac jbI jbl jle jba jaa jbA jbz jle jjI jkf jiF jnK jml jmm jmC jmx jmn jnf jm0 jaT jbb jbr jaR jfg jaR jcB jcC jbo jbp jbk jbj jbf jbq jbE jbm jbi jcd jbb cyI jbQ jjI cyI jmg jkf cyI jmy jg3 jiM jmr jiM cyI jk5 jiF cyI jlz) sz) := by
  refine vx_ofW (cc := cX10_fits) (maxL := 2) (ret := (some .int)) (by decide) rfl ?_
  intro p e s m args below meth c s₁ B hml hnt hv
  obtain ⟨rfl, hsz, hP, hK, hD0, hNw, hXl, hXu, hXn, hXt⟩ := hv
  have hx := B.exec
  have hb := B.bytes
  have hr := B.returns
  have hts := atoms_spec (ws := wsX10_fits) B.pre
  have hown : s.vm.findClass RX10 = some m.cls := findClass_of_methodNamed B.named
  have hlocks := B.notSynchronized
  subst hsz
  have hD := hD0.self (sz := s.heap.size)
  generalize hAe : va_A (qM2 a0 jaK jfR ja1 jcp jbc jg3 ja3 jbH jaT jbO jaq jac jbI jbl jle jba jaa jbA jbz jle jjI jkf jiF jnK jml jmm jmC jmx jmn jnf jm0 jaT jbb jbr jaR jfg jaR jcB jcC jbo jbp jbk jbj jbf jbq jbE jbm jbi jcd jbb cyI jbQ jjI cyI jmg jkf cyI jmy jg3 jiM jmr jiM cyI jk5 jiF cyI jlz) s.heap.size = A at hD hXu hXn ⊢
  have hA : ∀ q : Nat, s.heap.size ≤ q → A q := fun q h => by rw [← hAe]; exact Or.inr h
  have hS : va_S A s.heap s.heap [] := va_S.rf
  have hP : va_P (dC, dI) vwCl (qM2 a0 jaK jfR ja1 jcp jbc jg3 ja3 jbH jaT jbO jaq jac jbI jbl jle jba jaa jbA jbz jle jjI jkf jiF jnK jml jmm jmC jmx jmn jnf jm0 jaT jbb jbr jaR jfg jaR jcB jcC jbo jbp jbk jbj jbf jbq jbE jbm jbi jcd jbb cyI jbQ jjI cyI jmg jkf cyI jmy jg3 jiM jmr jiM cyI jk5 jiF cyI jlz) s.heap := hP
  have hl := lv_entry ([.ref a0, .int p1]) (n := 2) (nbq rfl)
  rw [lg_entry_eq]
  generalize (lg_sl ([.ref a0, .int p1]) ++ List.replicate (2 - (lg_sl ([.ref a0, .int p1])).length) Slot.unset).toArray = ls at hl ⊢
  have hl : lv_has ls 2 [(0, .ref a0), (1, .int p1)] := hl
  have hY : cfY l s A := ⟨hXl, hXu, hXn, hXt⟩
  have hXs : cfX l s c A := ⟨hnt, hY⟩
  have C0 : cfx p s m _ meth c cX10_fits (some .int) wsX10_fits RX10 2 A (dC, dI) (kT cyB cyI cyJ cyP) ∧ cfX l s c A := ⟨⟨hx, hb, hr, hts, hown, hlocks, hml, hA, hK, hNw⟩, hXs⟩
  clear hAe
  obtain ⟨H, hH⟩ : ∃ H, H = s.heap := ⟨_, rfl⟩
  rw [← hH] at hP ⊢
  have hS : va_S A s.heap H [] := by rw [hH]; exact va_S.rf
  have hS := hS
  refine lv_aload_n hx hb (qaa qmO 0 rfl) rfl (lv_at hl 0 rfl) ?_
  refine lv_iload_n hx hb (qaa qmO 1 rfl) rfl (lv_at hl 1 rfl) ?_
  refine lv_iconst (v := 0) hx hb (qaa qmO 2 rfl) (by decide) ?_
  refine lv_iconst (v := 1) hx hb (qaa qmO 3 rfl) (by decide) ?_
  obtain ⟨hCc, hPc, hDc, hFc⟩ := qac (ws' := (qaMC a0 jaK jfR ja1 jcp jbc jg3 ja3 jbH jaT jbO jaq jac jbI jbl jle jba jaa jbA jbz)) hP hD hS hA [0] (by decide +kernel) rfl
  refine vx_callv (vx_runV (As := [.int p1, .int 0, .int 1]) (rest := []) ⟨hx, hb, hml, hown, hts⟩ (qaV l dC dI cyB cyI cyJ cyP a0 H.size (jaK) (jfR) (ja1) (jcp) (jbc) (.ref jg3) (ja3) (jbH) (.ref jaT) (jbO) (jaq) (jac) (jbI) (jbl) (.ref jle) (jba) (jaa) (jbA) jbz p1 0 1 hw) (cwV 3 hts gX10_fits_X10_needWithin rfl rfl rfl (by decide +kernel) ⟨nbq rfl, nbq rfl⟩) ⟨qav, va_recv (q := (RX10, TX10, 19)) hK hPc (ci := 10) (q0 := 0) rfl rfl, qbl hPc hK hDc hNw hY hS hFc⟩ rfl rfl hl.1 rfl (lv_room (nbq rfl)) (qaa qmO 4 rfl) ⟨nbq rfl, nbq rfl⟩) hS (fun q _ h => hFc q h) hFc (fun q _ h => hFc q h) (fun en ce q9 u t H1 locs ht hvm hpx hB hz1 hk1 hS hc9 hv9 hcl9 => ?_) (fun u t H1 locs ht hvm hw hB hz1 hk1 hS => ?_)
  · obtain ⟨x1, rfl⟩ : ∃ z, z = u := ⟨_, rfl⟩
    obtain ⟨hw, hP1, hK1, hD1⟩ := hB
    rw [ht] at hP1
    obtain ⟨hP, hD⟩ := qad (wr := (qJD jle jjI jkf jiF jnK jml jmm jmC jmx jmn jnf jm0 jaT jbb jbr jaR jfg jaR jcB jcC jbo jbp jbk jbj jbf jbq jbE jbm jbi jcd jbb cyI jbQ jjI cyI jmg jkf cyI jmy jg3 jiM jmr jiM cyI jk5 jiF cyI jlz)) (w1 := (qaMC a0 jaK jfR ja1 jcp jbc jg3 ja3 jbH jaT jbO jaq jac jbI jbl jle jba jaa jbA x1)) (wn := (qM2 a0 jaK jfR ja1 jcp jbc jg3 ja3 jbH jaT jbO jaq jac jbI jbl jle jba jaa jbA x1 jle jjI jkf jiF jnK jml jmm jmC jmx jmn jnf jm0 jaT jbb jbr jaR jfg jaR jcB jcC jbo jbp jbk jbj jbf jbq jbE jbm jbi jcd jbb cyI jbQ jjI cyI jmg jkf cyI jmy jg3 jiM jmr jiM cyI jk5 jiF cyI jlz)) hP hD [0] [1, 2, 3, 4, 5, 6, 7, 8, 9] [9, 0, 1, 2, 3, 4, 5, 6, 7, 8] hCc rfl (by decide +kernel) (by decide +kernel) (by decide +kernel) rfl hk1 hFc hP1 hD1
    generalize H1 = H at hP hS hc9 ⊢
    exact vx_out (fun x hx9 => (hXs.1 x hx9).elim) hlocks hc9 hv9 hcl9 (fun t2 ht2 hal2 => ⟨(x1, jml, jmm, jmx, jmn, jmg, jmy, jlz, jmC), trivial, ⟨hw, by rw [ht2]; exact hP, va_K.moved hal2 hK, hD⟩, hS.F ht2⟩) hS.2.2 (nbq rfl) (nbq rfl)
  obtain ⟨x1, rfl⟩ : ∃ z, z = u := ⟨_, rfl⟩
  obtain ⟨hP1, hK1, hD1⟩ := hB
  rw [ht] at hP1
  obtain ⟨hP, hD⟩ := qad (wr := (qJD jle jjI jkf jiF jnK jml jmm jmC jmx jmn jnf jm0 jaT jbb jbr jaR jfg jaR jcB jcC jbo jbp jbk jbj jbf jbq jbE jbm jbi jcd jbb cyI jbQ jjI cyI jmg jkf cyI jmy jg3 jiM jmr jiM cyI jk5 jiF cyI jlz)) (w1 := (qaMC a0 jaK jfR ja1 jcp jbc jg3 ja3 jbH jaT jbO jaq jac jbI jbl jle jba jaa jbA x1)) (wn := (qM2 a0 jaK jfR ja1 jcp jbc jg3 ja3 jbH jaT jbO jaq jac jbI jbl jle jba jaa jbA x1 jle jjI jkf jiF jnK jml jmm jmC jmx jmn jnf jm0 jaT jbb jbr jaR jfg jaR jcB jcC jbo jbp jbk jbj jbf jbq jbE jbm jbi jcd jbb cyI jbQ jjI cyI jmg jkf cyI jmy jg3 jiM jmr jiM cyI jk5 jiF cyI jlz)) hP hD [0] [1, 2, 3, 4, 5, 6, 7, 8, 9] [9, 0, 1, 2, 3, 4, 5, 6, 7, 8] hCc rfl (by decide +kernel) (by decide +kernel) (by decide +kernel) rfl hk1 hFc hP1 hD1
  generalize H1 = H at hP hS ⊢
  refine lv_aload_n hx hb (qaa qmO 5 rfl) rfl (lv_at hl 0 rfl) ?_
  refine va_get (D := (dC, dI)) (ci := 10) (v := .ref jle) (C := RX10) (T := TX10) (N := 19) hx hb hts qBS hown hK hP 0 rfl rfl 14 (by decide) (hts _ qQS) (fun _ h9 => h9) rfl (qaa qmO 6 rfl) ?_
  refine lv_aload_n hx hb (qaa qmO 7 rfl) rfl (lv_at hl 0 rfl) ?_
  refine va_get (D := (dC, dI)) (ci := 10) (v := .ref jaT) (C := RX10) (T := TX10) (N := 19) hx hb hts qBS hown hK hP 0 rfl rfl 8 (by decide) (hts _ qawh) (fun _ h9 => h9) rfl (qaa qmO 8 rfl) ?_
  refine lv_aload_n hx hb (qaa qmO 9 rfl) rfl (lv_at hl 0 rfl) ?_
  refine va_get (D := (dC, dI)) (ci := 10) (v := .ref jg3) (C := RX10) (T := TX10) (N := 19) hx hb hts qBS hown hK hP 0 rfl rfl 5 (by decide) (hts _ qayB) (fun _ h9 => h9) rfl (qaa qmO 10 rfl) ?_
  obtain ⟨hCc, hPc, hDc, hFc⟩ := qac (ws' := (qJD jle jjI jkf jiF jnK jml jmm jmC jmx jmn jnf jm0 jaT jbb jbr jaR jfg jaR jcB jcC jbo jbp jbk jbj jbf jbq jbE jbm jbi jcd jbb cyI jbQ jjI cyI jmg jkf cyI jmy jg3 jiM jmr jiM cyI jk5 jiF cyI jlz)) hP hD hS hA [1, 2, 3, 4, 5, 6, 7, 8, 9] (by decide +kernel) rfl
  refine va_callv (va_runV (As := [.ref jaT, .ref jg3]) (rest := []) ⟨hx, hb, hml, hown, hts⟩ (qan5 l dC dI cyB cyI cyJ cyP jle jaT jg3 jaR jjI jbb jkf jiF jiM H.size (jnK) (jmC) (jnf) (jm0) (jbr) (jfg) (jcB) (jcC) (jbo) (jbp) (jbk) (jbj) (jbf) (jbq) (jbi) (jcd) (jmr) jbE jbm jbQ jk5 jml jmm jmx jmn jmg jmy jlz hw) (cwV 2 hts gX10_fits_X3_settle rfl rfl rfl (by decide +kernel) ⟨nbq rfl, nbq rfl⟩) ⟨qab, va_recv (q := (RX3, TX3, 11)) hK hPc (ci := 3) (q0 := 0) rfl rfl, qae hPc hK hDc hNw⟩ rfl rfl hl.1 rfl (lv_room (nbq rfl)) (qaa qmO 11 rfl) ⟨nbq rfl, nbq rfl⟩) hS (fun q _ h => hFc q h) hFc (fun u t H1 locs ht hvm hw hB hz1 hk1 hS => ?_)
  obtain ⟨x2, x3, x4, x5, f6, f7, f8⟩ := u
  obtain ⟨hP1, hK1, hD1⟩ := hB
  rw [ht] at hP1
  obtain ⟨hP, hD⟩ := qah (wr := (qaMC a0 jaK jfR ja1 jcp jbc jg3 ja3 jbH jaT jbO jaq jac jbI jbl jle jba jaa jbA x1)) (w1 := (qqq jle jjI jkf jiF jnK x2 x3 jg3 x4 x5 jnf jm0 jaT jbb jbr jaR jfg jaR jcB jcC jbo jbp jbk jbj jbf jbq jbE jbm jbi jcd jbb cyI jbQ jjI cyI f6 jkf cyI f7 jg3 jiM jmr jiM cyI jk5 jiF cyI f8)) (wn := (qbeK a0 jaK jfR ja1 jcp jbc jg3 ja3 jbH jaT jbO jaq jac jbI jbl jle jba jaa jbA x1 jle jjI jkf jiF jnK x2 x3 jg3 x4 x5 jnf jm0 jaT jbb jbr jaR jfg jaR jcB jcC jbo jbp jbk jbj jbf jbq jbE jbm jbi jcd jbb cyI jbQ jjI cyI f6 jkf cyI f7 jg3 jiM jmr jiM cyI jk5 jiF cyI f8)) hP hD [1, 2, 3, 4, 5, 6, 7, 8, 9] [0] hCc rfl (by decide +kernel) (by decide +kernel) rfl hk1 hFc hP1 hD1
  generalize H1 = H at hP hS ⊢
  refine lv_iload_n hx hb (qaa qmO 12 rfl) rfl (lv_at hl 1 rfl) ?_
  refine lv_if_ne (tgt := 36) hx hb (qaa qmO 13 rfl) (by decide) (fun c9 => ?_) (fun c9 => ?_)
  · have hw := hw.1 c9
    refine lv_aload_n hx hb (qaa qxP 2 rfl) rfl (lv_at hl 0 rfl) ?_
    refine va_get (D := (dC, dI)) (ci := 10) (v := .ref jle) (C := RX10) (T := TX10) (N := 19) hx hb hts qBS hown hK hP 0 rfl rfl 14 (by decide) (hts _ qQS) (fun _ h9 => h9) rfl (qaa qxP 3 rfl) ?_
    refine va_get (D := (dC, dI)) (ci := 3) (v := .int x5) (C := RX3) (T := TX3) (N := 11) hx hb hts q7f hown hK hP 1 rfl rfl 8 (by decide) (hts _ qap4) (fun _ h9 => h9) rfl (qaa qxP 4 rfl) ?_
    exact vx_ret (W.widen (k := 1) (n := 6) (nbq rfl) (nbq rfl) (W.iret (v := x5) hx hb hr (fun t ht hW => ⟨⟨x5, (x1, x2, x3, x4, x5, f6, f7, f8, (.ref jg3)), rfl, hw, by rw [ht]; exact hP, va_K.moved hW.alike hK, hD⟩, hS.F ht⟩) hS.2.2 (qaa qxP 5 rfl)))
  · have hw := hw.2 c9
    refine lv_aload_n hx hb (qaa qmO 14 rfl) rfl (lv_at hl 0 rfl) ?_
    refine va_get (D := (dC, dI)) (ci := 10) (v := .ref jle) (C := RX10) (T := TX10) (N := 19) hx hb hts qBS hown hK hP 0 rfl rfl 14 (by decide) (hts _ qQS) (fun _ h9 => h9) rfl (qaa qmO 15 rfl) ?_
    refine va_get (D := (dC, dI)) (ci := 3) (v := .int x4) (C := RX3) (T := TX3) (N := 11) hx hb hts q7f hown hK hP 1 rfl rfl 7 (by decide) (hts _ qatl) (fun _ h9 => h9) rfl (qaa qxP 0 rfl) ?_
    refine lv_goto (tgt := 43) hx hb (qaa qxP 1 rfl) (by decide) ?_
    exact vx_ret (W.widen (k := 1) (n := 6) (nbq rfl) (nbq rfl) (W.iret (v := x4) hx hb hr (fun t ht hW => ⟨⟨x4, (x1, x2, x3, x4, x5, f6, f7, f8, (.ref jg3)), rfl, hw, by rw [ht]; exact hP, va_K.moved hW.alike hK, hD⟩, hS.F ht⟩) hS.2.2 (qaa qxP 5 rfl)))
theorem qaHW : (.classLink RL 13 "java/lang/IllegalArgumentException" : Cond) ∈ wsL_fits := qavg 595 (by decide +kernel)
theorem qaVR : (.codeWith yL_fits cL_fits 4 (some .int) [(0, 9, 12, 13)] : Cond) ∈ wsL_fits := qavg 3459 (by decide +kernel)
set_option maxHeartbeats 4000000 in
set_option maxRecDepth 100000 in
theorem qa6W (l : Launch) (dC : Nat → ClassId) (dI : Nat → Nat → Nat) (cyB cyI cyJ cyP : ClassId) (a0 a2 jle jaT jaR jbb jjI jkf jg3 jiM jiF sz : Nat) (jaK ja1 jcp jbc ja3 jbH jbO jaq jac jbI jbl jba jaa jbA jnK jnf jm0 jbr jfg jcB jcC jbo jbp jbk jbj jbf jbq jbi jcd jmr : Value) (n2 : Nat) (jbE jbm : Int32) (jbQ jk5 : NI) (jbz jml jmm jmx jmn : Int32) (jmg jmy jlz : NI) (jmC : Value) (f2 : Nat → Int64) (p1 : Int32) {Q : Int32 → Int32 → Int32 → Int32 → Int32 → Int32 → NI → NI → NI → Value → (Nat → Int64) → Prop} (hw : qaVe jg3 n2 jbE jbm jbQ jk5 jbz jml jmm jmx jmn jmg jmy jlz jmC f2 p1 Q) : Met l yL_fits wsL_fits ({ frames := 9, cells := 1, slots := 6, locals := 185 }) (va_Pc [.ref a0, .int p1, .ref a2] (cPx l (dC, dI) (kT cyB cyI cyJ cyP) (qM6 a0 jaK jaR ja1 jcp jbc jg3 ja3 jbH jaT jbO jaq jac jbI jbl jle jba jaa jbA jbz jle jjI jkf jiF jnK jml jmm jmC jmx jmn jnf jm0 jaT jbb jbr jaR jfg jaR jcB jcC jbo jbp jbk jbj jbf jbq jbE jbm jbi jcd jbb cyI jbQ jjI cyI jmg jkf cyI jmy jg3 jiM jmr jiM cyI jk5 jiF cyI jlz a2 cyJ n2 f2) sz)) (va_Qi (fun (r : Int32) (u : Int32 × Int32 × Int32 × Int32 × Int32 × NI × NI × NI × Value × (Nat → Int64)) => Q r u.1 u.2.1 u.2.2.1 u.2.2.2.1 u.2.2.2.2.1 u.2.2.2.2.2.1 u.2.2.2.2.2.2.1 u.2.2.2.2.2.2.2.1 u.2.2.2.2.2.2.2.2.1 u.2.2.2.2.2.2.2.2.2) (cB (dC, dI) (kT cyB cyI cyJ cyP) (va_A (qM6 a0 jaK jaR ja1 jcp jbc jg3 ja3 jbH jaT jbO jaq jac jbI jbl jle jba jaa jbA jbz jle jjI jkf jiF jnK jml jmm jmC jmx jmn jnf jm0 jaT jbb jbr jaR jfg jaR jcB jcC jbo jbp jbk jbj jbf jbq jbE jbm jbi jcd jbb cyI jbQ jjI cyI jmg jkf cyI jmy jg3 jiM jmr jiM cyI jk5 jiF cyI jlz a2 cyJ n2 f2) sz) (fun u : Int32 × Int32 × Int32 × Int32 × Int32 × NI × NI × NI × Value × (Nat → Int64) => ((qM6 a0 jaK jaR ja1 jcp jbc jg3 ja3 jbH jaT jbO jaq jac jbI jbl jle jba jaa jbA u.1 jle jjI jkf jiF jnK u.2.1 u.2.2.1 u.2.2.2.2.2.2.2.2.1 u.2.2.2.1 u.2.2.2.2.1 jnf jm0 jaT jbb jbr jaR jfg jaR jcB jcC jbo jbp jbk jbj jbf jbq jbE jbm jbi jcd jbb cyI jbQ jjI cyI u.2.2.2.2.2.1 jkf cyI u.2.2.2.2.2.2.1 jg3 jiM jmr jiM cyI jk5 jiF cyI u.2.2.2.2.2.2.2.1 a2 cyJ n2 u.2.2.2.2.2.2.2.2.2) : va_W))) (va_A (qM6 a0 jaK jaR ja1 jcp jbc jg3 ja3 jbH jaT jbO jaq jac jbI jbl jle jba jaa jbA jbz jle jjI jkf jiF jnK jml jmm jmC jmx jmn jnf jm0 jaT jbb jbr jaR jfg jaR jcB jcC jbo jbp jbk jbj jbf jbq jbE jbm jbi jcd jbb cyI jbQ jjI cyI jmg jkf cyI jmy jg3 jiM jmr jiM cyI jk5 jiF cyI jlz a2 cyJ n2 f2) sz)) 1 6 (va_A (qM6 a0 jaK jaR ja1 jcp jbc jg3 ja3 jbH jaT jbO jaq jac jbI jbl jle jba jaa jbA jbz jle jjI jkf jiF jnK jml jmm jmC jmx jmn jnf jm0 jaT jbb jbr jaR jfg jaR jcB jcC jbo jbp jbk jbj jbf jbq jbE jbm jbi jcd jbb cyI jbQ jjI cyI jmg jkf cyI jmy jg3 jiM jmr jiM cyI jk5 jiF cyI jlz a2 cyJ n2 f2) sz) := by
  refine va_MetW (cc := cL_fits) (maxL := 4) (ret := (some .int)) (by decide) rfl ?_
  intro p e s m args below meth c s₁ B hml hv
  obtain ⟨rfl, hsz, hP, hK, hD0, hNw, hXl, hXu, hXn, hXt⟩ := hv
  have hx := B.exec
  have hb := B.bytes
  have hr := B.returns
  have hts := atoms_spec (ws := wsL_fits) B.pre
  have hown : s.vm.findClass RL = some m.cls := findClass_of_methodNamed B.named
  have hlocks := B.notSynchronized
  subst hsz
  have hD := hD0.self (sz := s.heap.size)
  generalize hAe : va_A (qM6 a0 jaK jaR ja1 jcp jbc jg3 ja3 jbH jaT jbO jaq jac jbI jbl jle jba jaa jbA jbz jle jjI jkf jiF jnK jml jmm jmC jmx jmn jnf jm0 jaT jbb jbr jaR jfg jaR jcB jcC jbo jbp jbk jbj jbf jbq jbE jbm jbi jcd jbb cyI jbQ jjI cyI jmg jkf cyI jmy jg3 jiM jmr jiM cyI jk5 jiF cyI jlz a2 cyJ n2 f2) s.heap.size = A at hD hXu hXn ⊢
  have hA : ∀ q : Nat, s.heap.size ≤ q → A q := fun q h => by rw [← hAe]; exact Or.inr h
  have hS : va_S A s.heap s.heap [] := va_S.rf
  have hP : va_P (dC, dI) vwCl (qM6 a0 jaK jaR ja1 jcp jbc jg3 ja3 jbH jaT jbO jaq jac jbI jbl jle jba jaa jbA jbz jle jjI jkf jiF jnK jml jmm jmC jmx jmn jnf jm0 jaT jbb jbr jaR jfg jaR jcB jcC jbo jbp jbk jbj jbf jbq jbE jbm jbi jcd jbb cyI jbQ jjI cyI jmg jkf cyI jmy jg3 jiM jmr jiM cyI jk5 jiF cyI jlz a2 cyJ n2 f2) s.heap := hP
  have hl := lv_entry ([.ref a0, .int p1, .ref a2]) (n := 4) (nbq rfl)
  rw [lg_entry_eq]
  generalize (lg_sl ([.ref a0, .int p1, .ref a2]) ++ List.replicate (4 - (lg_sl ([.ref a0, .int p1, .ref a2])).length) Slot.unset).toArray = ls at hl ⊢
  have hl : lv_has ls 4 [(0, .ref a0), (1, .int p1), (2, .ref a2)] := hl
  have hY : cfY l s A := ⟨hXl, hXu, hXn, hXt⟩
  have hTb := vx_table (x := yL_fits) B (hts _ qaVR)
  clear hAe
  obtain ⟨H, hH⟩ : ∃ H, H = s.heap := ⟨_, rfl⟩
  rw [← hH] at hP ⊢
  have hS : va_S A s.heap H [] := by rw [hH]; exact va_S.rf
  have hS := hS
  refine lv_aload_n hx hb (qaa qte 0 rfl) rfl (lv_at hl 2 rfl) ?_
  refine lv_iconst (v := 0) hx hb (qaa qte 1 rfl) (by decide) ?_
  refine lv_aload_n hx hb (qaa qte 2 rfl) rfl (lv_at hl 0 rfl) ?_
  refine lv_iload_n hx hb (qaa qte 3 rfl) rfl (lv_at hl 1 rfl) ?_
  obtain ⟨hCc, hPc, hDc, hFc⟩ := qac (ws' := (qaYJ a0 jaK jaR ja1 jcp jbc jg3 ja3 jbH jaT jbO jaq jac jbI jbl jle jba jaa jbA jbz jle jjI jkf jiF jnK jml jmm jmC jmx jmn jnf jm0 jaT jbb jbr jaR jfg jaR jcB jcC jbo jbp jbk jbj jbf jbq jbE jbm jbi jcd jbb cyI jbQ jjI cyI jmg jkf cyI jmy jg3 jiM jmr jiM cyI jk5 jiF cyI jlz)) hP hD hS hA [0, 1, 2, 3, 4, 5, 6, 7, 8, 9] (by decide +kernel) rfl
  refine vx_calli (vx_runV (As := [.int p1]) (rest := [.int 0, .ref a2]) ⟨hx, hb, hml, hown, hts⟩ (qaZX l dC dI cyB cyI cyJ cyP a0 jle jaT jg3 jaR jbb jjI jkf jiM jiF H.size (jaK) (.ref jaR) (ja1) (jcp) (jbc) (ja3) (jbH) (jbO) (jaq) (jac) (jbI) (jbl) (jba) (jaa) (jbA) (jnK) (jnf) (jm0) (jbr) (jfg) (jcB) (jcC) (jbo) (jbp) (jbk) (jbj) (jbf) (jbq) (jbi) (jcd) (jmr) jbE jbm jbQ jk5 jbz jml jmm jmx jmn jmg jmy jlz jmC p1 hw) (cwV 1 hts gL_fits_X10_fits rfl rfl rfl (by decide +kernel) ⟨nbq rfl, nbq rfl⟩) ⟨qav, va_recv (q := (RX10, TX10, 19)) hK hPc (ci := 10) (q0 := 0) rfl rfl, qbl hPc hK hDc hNw hY hS hFc⟩ rfl rfl hl.1 rfl (lv_room (nbq rfl)) (qaa qte 4 rfl) ⟨nbq rfl, nbq rfl⟩) hS (fun q _ h => hFc q h) hFc (fun q _ h => hFc q h) (fun en ce qx9 u t H1 locs ht hvm hpx hB hz1 hk1 hS hc9 hv9 hcl9 => ?_) (fun r10 u t H1 locs ht hvm hw hB hz1 hk1 hS => ?_)
  · obtain ⟨x1, x2, x3, x4, x5, f6, f7, f8, q9⟩ := u
    obtain ⟨hw, hP1, hK1, hD1⟩ := hB
    rw [ht] at hP1
    obtain ⟨hP, hD⟩ := qad (wr := [(a2, .inl (cyJ, n2, .inr (.inl f2)))]) (w1 := (qaYJ a0 jaK jaR ja1 jcp jbc jg3 ja3 jbH jaT jbO jaq jac jbI jbl jle jba jaa jbA x1 jle jjI jkf jiF jnK x2 x3 q9 x4 x5 jnf jm0 jaT jbb jbr jaR jfg jaR jcB jcC jbo jbp jbk jbj jbf jbq jbE jbm jbi jcd jbb cyI jbQ jjI cyI f6 jkf cyI f7 jg3 jiM jmr jiM cyI jk5 jiF cyI f8)) (wn := (qM6 a0 jaK jaR ja1 jcp jbc jg3 ja3 jbH jaT jbO jaq jac jbI jbl jle jba jaa jbA x1 jle jjI jkf jiF jnK x2 x3 q9 x4 x5 jnf jm0 jaT jbb jbr jaR jfg jaR jcB jcC jbo jbp jbk jbj jbf jbq jbE jbm jbi jcd jbb cyI jbQ jjI cyI f6 jkf cyI f7 jg3 jiM jmr jiM cyI jk5 jiF cyI f8 a2 cyJ n2 f2)) hP hD [0, 1, 2, 3, 4, 5, 6, 7, 8, 9] [10] [1, 2, 3, 4, 5, 6, 7, 8, 9, 10, 0] hCc rfl (by decide +kernel) (by decide +kernel) (by decide +kernel) rfl hk1 hFc hP1 hD1
    generalize H1 = H at hP hS hc9 ⊢
    obtain ⟨rfl, hw⟩ := hw
    refine vx_catch (own := RL) (name := "java/lang/IllegalArgumentException") hown [] ⟨0, 9, 12, 13⟩ [] (hTb.trans rfl) (fun z hz => nomatch hz) (by decide) (by decide) (hts _ qaHW) (va_Nw.use rfl (hY.2.2.2.1.2 _ (List.mem_of_getElem? (i := 0) rfl))) hc9 hv9 hcl9 ?_
    refine lv_astore_n (lv' := [(3, .ref qx9), (0, .ref a0), (1, .int p1), (2, .ref a2)]) hx hb (qaa qte 8 rfl) rfl hl (by decide) rfl (fun ls hl => ?_)
    refine lv_iconst (v := 1) hx hb (qaa qte 9 rfl) (by decide) ?_
    exact (W.widen (k := 1) (n := 6) (nbq rfl) (nbq rfl) (W.iret (v := 1) hx hb hr (fun t ht hW => ⟨⟨1, (x1, x2, x3, x4, x5, f6, f7, f8, q9, f2), rfl, hw, by rw [ht]; exact hP, va_K.moved hW.alike hK, hD⟩, hS.F ht⟩) hS.2.2 (qaa qte 10 rfl)))
  obtain ⟨x1, x2, x3, x4, x5, f6, f7, f8, q9⟩ := u
  obtain ⟨hP1, hK1, hD1⟩ := hB
  rw [ht] at hP1
  obtain ⟨hP, hD⟩ := va_join (wr := [(a2, .inl (cyJ, n2, .inr (.inl f2)))]) (w1 := (qaYJ a0 jaK jaR ja1 jcp jbc jg3 ja3 jbH jaT jbO jaq jac jbI jbl jle jba jaa jbA x1 jle jjI jkf jiF jnK x2 x3 q9 x4 x5 jnf jm0 jaT jbb jbr jaR jfg jaR jcB jcC jbo jbp jbk jbj jbf jbq jbE jbm jbi jcd jbb cyI jbQ jjI cyI f6 jkf cyI f7 jg3 jiM jmr jiM cyI jk5 jiF cyI f8)) hP hD [0, 1, 2, 3, 4, 5, 6, 7, 8, 9] [10] rfl rfl (by decide) (by decide) hk1 hFc hP1 hD1
  have hP : va_P (dC, dI) vwCl (qM6 a0 jaK jaR ja1 jcp jbc jg3 ja3 jbH jaT jbO jaq jac jbI jbl jle jba jaa jbA x1 jle jjI jkf jiF jnK x2 x3 q9 x4 x5 jnf jm0 jaT jbb jbr jaR jfg jaR jcB jcC jbo jbp jbk jbj jbf jbq jbE jbm jbi jcd jbb cyI jbQ jjI cyI f6 jkf cyI f7 jg3 jiM jmr jiM cyI jk5 jiF cyI f8 a2 cyJ n2 f2) H1 := hP.sub [1, 2, 3, 4, 5, 6, 7, 8, 9, 10, 0] rfl
  have hD : va_D A (qM6 a0 jaK jaR ja1 jcp jbc jg3 ja3 jbH jaT jbO jaq jac jbI jbl jle jba jaa jbA x1 jle jjI jkf jiF jnK x2 x3 q9 x4 x5 jnf jm0 jaT jbb jbr jaR jfg jaR jcB jcC jbo jbp jbk jbj jbf jbq jbE jbm jbi jcd jbb cyI jbQ jjI cyI f6 jkf cyI f7 jg3 jiM jmr jiM cyI jk5 jiF cyI f8 a2 cyJ n2 f2) := hD.sub [1, 2, 3, 4, 5, 6, 7, 8, 9, 10, 0] (by decide) rfl
  generalize H1 = H at hP hS ⊢
  refine lv_i2l (v := r10.toInt64) hx hb (qaa qte 5 rfl) rfl ?_
  refine lv_topl (fun x11 ex11 => ?_)
  have hw := hw x11 ex11
  obtain ⟨hi9, hw⟩ := hw
  refine va_last hx hb hK hP hD hS 10 2 rfl rfl hi9 (qaa qte 6 rfl) (fun H locs hP hD hS => ?_)
  obtain ⟨f12, ef12⟩ : ∃ y : Nat → Int64, y = vp_updL f2 (0 : Int32).toNatClampNeg x11 := ⟨_, rfl⟩
  have hw := hw f12 ef12
  have hP : va_P (dC, dI) vwCl (qM6 a0 jaK jaR ja1 jcp jbc jg3 ja3 jbH jaT jbO jaq jac jbI jbl jle jba jaa jbA x1 jle jjI jkf jiF jnK x2 x3 q9 x4 x5 jnf jm0 jaT jbb jbr jaR jfg jaR jcB jcC jbo jbp jbk jbj jbf jbq jbE jbm jbi jcd jbb cyI jbQ jjI cyI f6 jkf cyI f7 jg3 jiM jmr jiM cyI jk5 jiF cyI f8 a2 cyJ n2 f12) H := by rw [ef12]; exact hP
  have hD : va_D A (qM6 a0 jaK jaR ja1 jcp jbc jg3 ja3 jbH jaT jbO jaq jac jbI jbl jle jba jaa jbA x1 jle jjI jkf jiF jnK x2 x3 q9 x4 x5 jnf jm0 jaT jbb jbr jaR jfg jaR jcB jcC jbo jbp jbk jbj jbf jbq jbE jbm jbi jcd jbb cyI jbQ jjI cyI f6 jkf cyI f7 jg3 jiM jmr jiM cyI jk5 jiF cyI f8 a2 cyJ n2 f12) := by rw [ef12]; exact hD
  refine lv_goto (tgt := 15) hx hb (qaa qte 7 rfl) (by decide) ?_
  refine lv_iconst (v := 0) hx hb (qaa qte 11 rfl) (by decide) ?_
  exact (W.widen (k := 1) (n := 6) (nbq rfl) (nbq rfl) (W.iret (v := 0) hx hb hr (fun t ht hW => ⟨⟨0, (x1, x2, x3, x4, x5, f6, f7, f8, q9, f12), rfl, hw, by rw [ht]; exact hP, va_K.moved hW.alike hK, hD⟩, hS.F ht⟩) hS.2.2 (qaa qte 12 rfl)))
theorem qIj : ∀ w ∈ u_ws RX10 TX10 19, w ∈ wsX10_form := uiM qun qyN (by decide +kernel)
theorem q7C : ∀ w ∈ u_ws RX2 TX2 12, w ∈ wsX10_form := uiM qun qLp (by decide +kernel)
theorem qQk : (.fieldLink RX10 19 "MarchHares" "ground" "LMarchHares$Down;" : Cond) ∈ wsX10_form := qun 20 (by decide +kernel)
theorem qarq : (.fieldLink RX10 212 "MarchHares$Down" "formX" "[I" : Cond) ∈ wsX10_form := qun 2688 (by decide +kernel)
theorem qaqN : (.fieldLink RX10 216 "MarchHares$Down" "formY" "[I" : Cond) ∈ wsX10_form := qun 2689 (by decide +kernel)
theorem qaxk : (.fieldLink RX10 58 "MarchHares" "now" "LMarchHares$Days;" : Cond) ∈ wsX10_form := qun 79 (by decide +kernel)
set_option maxHeartbeats 4000000 in
set_option maxRecDepth 100000 in
theorem qaY2 (l : Launch) (dC : Nat → ClassId) (dI : Nat → Nat → Nat) (cyB cyI cyJ cyP : ClassId) (a0 jaR jaT jbb jbs jbt sz : Nat) (jaK ja1 jcp jbc jbV ja3 jbH jbO jaq jac jbI jbl jbn jba jaa jbo jbp jbk jbj jbf jbq jbi jbr jfg : Value) (jbE jbm jdB : Int32) (jbQ jci jcj : NI) (jdu jbz p1 p2 : Int32) {E : String → Int32 → Int32 → Prop} {Q : Int32 → Int32 → Int32 → Prop} (hw : q9u jbE jbm jdB jbQ jci jcj jdu jbz p1 p2 E Q) : vx_Met l yX10_form wsX10_form ({ frames := 8, cells := 2, slots := 12, locals := 164 }) (va_Pc [.ref a0, .int p1, .int p2] (cPx l (dC, dI) (kT cyB cyI cyJ cyP) (qzf a0 jaK jaR ja1 jcp jbc jbV ja3 jbH jaT jbO jaq jac jbI jbl jbn jba jaa jdu jbz jaR jbs jbt jbo jbp jbk jbj jbf jbq jbE jbm jbi jdB jaT jbb jbr jaR jfg jbb cyI jbQ jbs cyI jci jbt cyI jcj) sz)) (va_Qi (fun (r : Int32) (u : Int32 × Int32) => Q r u.1 u.2) (cB (dC, dI) (kT cyB cyI cyJ cyP) (va_A (qzf a0 jaK jaR ja1 jcp jbc jbV ja3 jbH jaT jbO jaq jac jbI jbl jbn jba jaa jdu jbz jaR jbs jbt jbo jbp jbk jbj jbf jbq jbE jbm jbi jdB jaT jbb jbr jaR jfg jbb cyI jbQ jbs cyI jci jbt cyI jcj) sz) (fun u : Int32 × Int32 => ((qzf a0 jaK jaR ja1 jcp jbc jbV ja3 jbH jaT jbO jaq jac jbI jbl jbn jba jaa u.1 u.2 jaR jbs jbt jbo jbp jbk jbj jbf jbq jbE jbm jbi jdB jaT jbb jbr jaR jfg jbb cyI jbQ jbs cyI jci jbt cyI jcj) : va_W))) (va_A (qzf a0 jaK jaR ja1 jcp jbc jbV ja3 jbH jaT jbO jaq jac jbI jbl jbn jba jaa jdu jbz jaR jbs jbt jbo jbp jbk jbj jbf jbq jbE jbm jbi jdB jaT jbb jbr jaR jfg jbb cyI jbQ jbs cyI jci jbt cyI jcj) sz)) (vx_X (fun _ => True) (fun (en : String) (u : Int32 × Int32) (t : State) => E en u.1 u.2 ∧ cB (dC, dI) (kT cyB cyI cyJ cyP) (va_A (qzf a0 jaK jaR ja1 jcp jbc jbV ja3 jbH jaT jbO jaq jac jbI jbl jbn jba jaa jdu jbz jaR jbs jbt jbo jbp jbk jbj jbf jbq jbE jbm jbi jdB jaT jbb jbr jaR jfg jbb cyI jbQ jbs cyI jci jbt cyI jcj) sz) (fun u : Int32 × Int32 => ((qzf a0 jaK jaR ja1 jcp jbc jbV ja3 jbH jaT jbO jaq jac jbI jbl jbn jba jaa u.1 u.2 jaR jbs jbt jbo jbp jbk jbj jbf jbq jbE jbm jbi jdB jaT jbb jbr jaR jfg jbb cyI jbQ jbs cyI jci jbt cyI jcj) : va_W)) u t) (va_A (qzf a0 jaK jaR ja1 jcp jbc jbV ja3 jbH jaT jbO jaq jac jbI jbl jbn jba jaa jdu jbz jaR jbs jbt jbo jbp jbk jbj jbf jbq jbE jbm jbi jdB jaT jbb jbr jaR jfg jbb cyI jbQ jbs cyI jci jbt cyI jcj) sz)) 2 12 (va_A (qzf a0 jaK jaR ja1 jcp jbc jbV ja3 jbH jaT jbO jaq jac jbI jbl jbn jba jaa jdu jbz jaR jbs jbt jbo jbp jbk jbj jbf jbq jbE jbm jbi jdB jaT jbb jbr jaR jfg jbb cyI jbQ jbs cyI jci jbt cyI jcj) sz) := by
  refine vx_ofW (cc := cX10_form) (maxL := 3) (ret := (some .int)) (by decide) rfl ?_
  intro p e s m args below meth c s₁ B hml hnt hv
  obtain ⟨rfl, hsz, hP, hK, hD0, hNw, hXl, hXu, hXn, hXt⟩ := hv
  have hx := B.exec
  have hb := B.bytes
  have hr := B.returns
  have hts := atoms_spec (ws := wsX10_form) B.pre
  have hown : s.vm.findClass RX10 = some m.cls := findClass_of_methodNamed B.named
  have hlocks := B.notSynchronized
  subst hsz
  have hD := hD0.self (sz := s.heap.size)
  generalize hAe : va_A (qzf a0 jaK jaR ja1 jcp jbc jbV ja3 jbH jaT jbO jaq jac jbI jbl jbn jba jaa jdu jbz jaR jbs jbt jbo jbp jbk jbj jbf jbq jbE jbm jbi jdB jaT jbb jbr jaR jfg jbb cyI jbQ jbs cyI jci jbt cyI jcj) s.heap.size = A at hD hXu hXn ⊢
  have hA : ∀ q : Nat, s.heap.size ≤ q → A q := fun q h => by rw [← hAe]; exact Or.inr h
  have hS : va_S A s.heap s.heap [] := va_S.rf
  have hP : va_P (dC, dI) vwCl (qzf a0 jaK jaR ja1 jcp jbc jbV ja3 jbH jaT jbO jaq jac jbI jbl jbn jba jaa jdu jbz jaR jbs jbt jbo jbp jbk jbj jbf jbq jbE jbm jbi jdB jaT jbb jbr jaR jfg jbb cyI jbQ jbs cyI jci jbt cyI jcj) s.heap := hP
  have hl := lv_entry ([.ref a0, .int p1, .int p2]) (n := 3) (nbq rfl)
  rw [lg_entry_eq]
  generalize (lg_sl ([.ref a0, .int p1, .int p2]) ++ List.replicate (3 - (lg_sl ([.ref a0, .int p1, .int p2])).length) Slot.unset).toArray = ls at hl ⊢
  have hl : lv_has ls 3 [(0, .ref a0), (1, .int p1), (2, .int p2)] := hl
  have hY : cfY l s A := ⟨hXl, hXu, hXn, hXt⟩
  have hXs : cfX l s c A := ⟨hnt, hY⟩
  have C0 : cfx p s m _ meth c cX10_form (some .int) wsX10_form RX10 3 A (dC, dI) (kT cyB cyI cyJ cyP) ∧ cfX l s c A := ⟨⟨hx, hb, hr, hts, hown, hlocks, hml, hA, hK, hNw⟩, hXs⟩
  clear hAe
  obtain ⟨H, hH⟩ : ∃ H, H = s.heap := ⟨_, rfl⟩
  rw [← hH] at hP ⊢
  have hS : va_S A s.heap H [] := by rw [hH]; exact va_S.rf
  have hS := hS
  refine lv_aload_n hx hb (qaa qu5 0 rfl) rfl (lv_at hl 0 rfl) ?_
  refine lv_iload_n hx hb (qaa qu5 1 rfl) rfl (lv_at hl 1 rfl) ?_
  obtain ⟨hCc, hPc, hDc, hFc⟩ := qac (ws' := (qaXq a0 jaK jaR ja1 jcp jbc jbV ja3 jbH jaT jbO jaq jac jbI jbl jbn jba jaa jdu jbz jaR jbs jbt jbo jbp jbk jbj jbf jbq jbE jbm jbi jdB)) hP hD hS hA [0, 1] (by decide +kernel) rfl
  refine vx_callv (vx_runV (As := [.int p1]) (rest := []) ⟨hx, hb, hml, hown, hts⟩ (qyi l dC dI cyB cyI cyJ cyP a0 jaR H.size (jaK) (ja1) (jcp) (jbc) (jbV) (ja3) (jbH) (.ref jaT) (jbO) (jaq) (jac) (jbI) (jbl) (jbn) (jba) (jaa) (.int jbz) (.ref jbs) (.ref jbt) (jbo) (jbp) (jbk) (jbj) (jbf) (jbq) (.int jbm) (jbi) (.int jdB) jbE jdu p1 hw) (cwV 1 hts gX10_form_X10_needForm rfl rfl rfl (by decide +kernel) ⟨nbq rfl, nbq rfl⟩) ⟨qav, va_recv (q := (RX10, TX10, 19)) hK hPc (ci := 10) (q0 := 0) rfl rfl, qbl hPc hK hDc hNw hY hS hFc⟩ rfl rfl hl.1 rfl (lv_room (nbq rfl)) (qaa qu5 2 rfl) ⟨nbq rfl, nbq rfl⟩) hS (fun q _ h => hFc q h) hFc (fun q _ h => hFc q h) (fun en ce q9 u t H1 locs ht hvm hpx hB hz1 hk1 hS hc9 hv9 hcl9 => ?_) (fun u t H1 locs ht hvm hw hB hz1 hk1 hS => ?_)
  · obtain ⟨x1, rfl⟩ : ∃ z, z = u := ⟨_, rfl⟩
    obtain ⟨hw, hP1, hK1, hD1⟩ := hB
    rw [ht] at hP1
    obtain ⟨hP, hD⟩ := qad (wr := (qa9B jaT jbb jbr jaR jfg jbb cyI jbQ jbs cyI jci jbt cyI jcj)) (w1 := (qaXq a0 jaK jaR ja1 jcp jbc jbV ja3 jbH jaT jbO jaq jac jbI jbl jbn jba jaa x1 jbz jaR jbs jbt jbo jbp jbk jbj jbf jbq jbE jbm jbi jdB)) (wn := (qzf a0 jaK jaR ja1 jcp jbc jbV ja3 jbH jaT jbO jaq jac jbI jbl jbn jba jaa x1 jbz jaR jbs jbt jbo jbp jbk jbj jbf jbq jbE jbm jbi jdB jaT jbb jbr jaR jfg jbb cyI jbQ jbs cyI jci jbt cyI jcj)) hP hD [0, 1] [2, 3, 4, 5] [4, 5, 0, 1, 2, 3] hCc rfl (by decide +kernel) (by decide +kernel) (by decide +kernel) rfl hk1 hFc hP1 hD1
    generalize H1 = H at hP hS hc9 ⊢
    exact vx_out (fun x hx9 => (hXs.1 x hx9).elim) hlocks hc9 hv9 hcl9 (fun t2 ht2 hal2 => ⟨(x1, jbz), trivial, ⟨hw, by rw [ht2]; exact hP, va_K.moved hal2 hK, hD⟩, hS.F ht2⟩) hS.2.2 (nbq rfl) (nbq rfl)
  obtain ⟨x1, rfl⟩ : ∃ z, z = u := ⟨_, rfl⟩
  obtain ⟨hP1, hK1, hD1⟩ := hB
  rw [ht] at hP1
  obtain ⟨hP, hD⟩ := qad (wr := (qa9B jaT jbb jbr jaR jfg jbb cyI jbQ jbs cyI jci jbt cyI jcj)) (w1 := (qaXq a0 jaK jaR ja1 jcp jbc jbV ja3 jbH jaT jbO jaq jac jbI jbl jbn jba jaa x1 jbz jaR jbs jbt jbo jbp jbk jbj jbf jbq jbE jbm jbi jdB)) (wn := (qzf a0 jaK jaR ja1 jcp jbc jbV ja3 jbH jaT jbO jaq jac jbI jbl jbn jba jaa x1 jbz jaR jbs jbt jbo jbp jbk jbj jbf jbq jbE jbm jbi jdB jaT jbb jbr jaR jfg jbb cyI jbQ jbs cyI jci jbt cyI jcj)) hP hD [0, 1] [2, 3, 4, 5] [4, 5, 0, 1, 2, 3] hCc rfl (by decide +kernel) (by decide +kernel) (by decide +kernel) rfl hk1 hFc hP1 hD1
  generalize H1 = H at hP hS ⊢
  refine lv_aload_n hx hb (qaa qu5 3 rfl) rfl (lv_at hl 0 rfl) ?_
  refine lv_iload_n hx hb (qaa qu5 4 rfl) rfl (lv_at hl 2 rfl) ?_
  refine lv_iconst (v := 0) hx hb (qaa qu5 5 rfl) (by decide) ?_
  refine lv_iconst (v := 3) hx hb (qaa qu5 6 rfl) (by decide) ?_
  obtain ⟨hCc, hPc, hDc, hFc⟩ := qac (ws' := (qalG a0 jaK jaR ja1 jcp jbc jbV ja3 jbH jaT jbO jaq jac jbI jbl jbn jba jaa x1 jbz)) hP hD hS hA [0] (by decide +kernel) rfl
  refine vx_callv (vx_runV (As := [.int p2, .int 0, .int 3]) (rest := []) ⟨hx, hb, hml, hown, hts⟩ (qaV l dC dI cyB cyI cyJ cyP a0 H.size (jaK) (.ref jaR) (ja1) (jcp) (jbc) (jbV) (ja3) (jbH) (.ref jaT) (jbO) (jaq) (jac) (jbI) (jbl) (jbn) (jba) (jaa) (.int x1) jbz p2 0 3 hw) (cwV 3 hts gX10_form_X10_needWithin rfl rfl rfl (by decide +kernel) ⟨nbq rfl, nbq rfl⟩) ⟨qav, va_recv (q := (RX10, TX10, 19)) hK hPc (ci := 10) (q0 := 0) rfl rfl, qbl hPc hK hDc hNw hY hS hFc⟩ rfl rfl hl.1 rfl (lv_room (nbq rfl)) (qaa qu5 7 rfl) ⟨nbq rfl, nbq rfl⟩) hS (fun q _ h => hFc q h) hFc (fun q _ h => hFc q h) (fun en ce q9 u t H1 locs ht hvm hpx hB hz1 hk1 hS hc9 hv9 hcl9 => ?_) (fun u t H1 locs ht hvm hw hB hz1 hk1 hS => ?_)
  · obtain ⟨x2, rfl⟩ : ∃ z, z = u := ⟨_, rfl⟩
    obtain ⟨hw, hP1, hK1, hD1⟩ := hB
    rw [ht] at hP1
    obtain ⟨hP, hD⟩ := qad (wr := (qa4f jaR jbs jbt jbo jbp jbk jbj jbf jbq jbE jbm jbi jdB jaT jbb jbr jaR jfg jbb cyI jbQ jbs cyI jci jbt cyI jcj)) (w1 := (qalG a0 jaK jaR ja1 jcp jbc jbV ja3 jbH jaT jbO jaq jac jbI jbl jbn jba jaa x1 x2)) (wn := (qzf a0 jaK jaR ja1 jcp jbc jbV ja3 jbH jaT jbO jaq jac jbI jbl jbn jba jaa x1 x2 jaR jbs jbt jbo jbp jbk jbj jbf jbq jbE jbm jbi jdB jaT jbb jbr jaR jfg jbb cyI jbQ jbs cyI jci jbt cyI jcj)) hP hD [0] [1, 2, 3, 4, 5] [5, 0, 1, 2, 3, 4] hCc rfl (by decide +kernel) (by decide +kernel) (by decide +kernel) rfl hk1 hFc hP1 hD1
    generalize H1 = H at hP hS hc9 ⊢
    exact vx_out (fun x hx9 => (hXs.1 x hx9).elim) hlocks hc9 hv9 hcl9 (fun t2 ht2 hal2 => ⟨(x1, x2), trivial, ⟨hw, by rw [ht2]; exact hP, va_K.moved hal2 hK, hD⟩, hS.F ht2⟩) hS.2.2 (nbq rfl) (nbq rfl)
  obtain ⟨x2, rfl⟩ : ∃ z, z = u := ⟨_, rfl⟩
  obtain ⟨hP1, hK1, hD1⟩ := hB
  rw [ht] at hP1
  obtain ⟨hP, hD⟩ := qad (wr := (qa4f jaR jbs jbt jbo jbp jbk jbj jbf jbq jbE jbm jbi jdB jaT jbb jbr jaR jfg jbb cyI jbQ jbs cyI jci jbt cyI jcj)) (w1 := (qalG a0 jaK jaR ja1 jcp jbc jbV ja3 jbH jaT jbO jaq jac jbI jbl jbn jba jaa x1 x2)) (wn := (qzf a0 jaK jaR ja1 jcp jbc jbV ja3 jbH jaT jbO jaq jac jbI jbl jbn jba jaa x1 x2 jaR jbs jbt jbo jbp jbk jbj jbf jbq jbE jbm jbi jdB jaT jbb jbr jaR jfg jbb cyI jbQ jbs cyI jci jbt cyI jcj)) hP hD [0] [1, 2, 3, 4, 5] [5, 0, 1, 2, 3, 4] hCc rfl (by decide +kernel) (by decide +kernel) (by decide +kernel) rfl hk1 hFc hP1 hD1
  generalize H1 = H at hP hS ⊢
  refine lv_iload_n hx hb (qaa qu5 8 rfl) rfl (lv_at hl 2 rfl) ?_
  by_cases c3 : p2.toInt < 0 ∨ 2 < p2.toInt
  · have hw := hw.1 c3
    refine lv_tableOut (tgt := 77) hx hb dX10_form_13 c3 (by decide) ?_
    refine lv_aload_n hx hb (qaa qqz 5 rfl) rfl (lv_at hl 0 rfl) ?_
    refine va_get (D := (dC, dI)) (ci := 10) (v := .ref jaT) (C := RX10) (T := TX10) (N := 19) hx hb hts qIj hown hK hP 0 rfl rfl 8 (by decide) (hts _ qaxk) (fun _ h9 => h9) rfl (qaa qqz 6 rfl) ?_
    refine lv_iload_n hx hb (qaa qqz 7 rfl) rfl (lv_at hl 1 rfl) ?_
    obtain ⟨hCc, hPc, hDc, hFc⟩ := qac (ws' := (qa4M jaT jbb jbr jaR jfg jaR jbs jbt jbo jbp jbk jbj jbf jbq jbE jbm jbi jdB jbb cyI jbQ)) hP hD hS hA [2, 1, 3] (by decide +kernel) rfl
    refine va_calli (va_runV (As := [.int p1]) (rest := []) ⟨hx, hb, hml, hown, hts⟩ (qTn l dC dI cyB cyI cyJ cyP jaT jaR jbb H.size (jbr) (jfg) (.ref jbs) (.ref jbt) (jbo) (jbp) (jbk) (jbj) (jbf) (jbq) (.int jbE) (jbi) (.int jdB) jbm jbQ p1 hw) (cwV 1 hts gX10_form_X1_seatedIn rfl rfl rfl (by decide +kernel) ⟨nbq rfl, nbq rfl⟩) ⟨qab, va_recv (q := (RX1, TX1, 4)) hK hPc (ci := 1) (q0 := 0) rfl rfl, qae hPc hK hDc hNw⟩ rfl rfl hl.1 rfl (lv_room (nbq rfl)) (qaa qqz 8 rfl) ⟨nbq rfl, nbq rfl⟩) hS (fun q _ h => hFc q h) hFc (fun r4 u t H1 locs ht hvm hw hB hz1 hk1 hS => ?_)
    obtain ⟨hP1, hK1, hD1⟩ := hB
    rw [ht] at hP1
    obtain ⟨hP, hD⟩ := qad (wr := [(a0, .inr (10, [jaK, .ref jaR, ja1, jcp, jbc, jbV, ja3, jbH, .ref jaT, jbO, jaq, jac, jbI, jbl, jbn, jba, jaa, .int x1, .int x2])), (jbs, .inl (cyI, 8, .inl jci)), (jbt, .inl (cyI, 8, .inl jcj))]) (w1 := (qa4M jaT jbb jbr jaR jfg jaR jbs jbt jbo jbp jbk jbj jbf jbq jbE jbm jbi jdB jbb cyI jbQ)) (wn := (qzf a0 jaK jaR ja1 jcp jbc jbV ja3 jbH jaT jbO jaq jac jbI jbl jbn jba jaa x1 x2 jaR jbs jbt jbo jbp jbk jbj jbf jbq jbE jbm jbi jdB jaT jbb jbr jaR jfg jbb cyI jbQ jbs cyI jci jbt cyI jcj)) hP hD [2, 1, 3] [0, 4, 5] [0, 4, 3, 5, 1, 2] hCc rfl (by decide +kernel) (by decide +kernel) (by decide +kernel) rfl hk1 hFc hP1 hD1
    generalize H1 = H at hP hS ⊢
    exact vx_ret (W.widen (k := 2) (n := 12) (nbq rfl) (nbq rfl) (W.iret (v := r4) hx hb hr (fun t ht hW => ⟨⟨r4, (x1, x2), rfl, hw, by rw [ht]; exact hP, va_K.moved hW.alike hK, hD⟩, hS.F ht⟩) hS.2.2 (qaa qqz 9 rfl)))
  · have hw := hw.2
    rcases qawZ c3 with c3 | c3 | c3
    · have hw := hw.1 c3
      refine lv_tableIn (tgt := 40) (off := 27) hx hb dX10_form_13 (by rw [c3]; decide) (by rw [c3]; decide) (by rw [c3]; decide) (by decide) ?_
      refine lv_aload_n hx hb (qaa qkp 0 rfl) rfl (lv_at hl 0 rfl) ?_
      refine va_get (D := (dC, dI)) (ci := 10) (v := .ref jaR) (C := RX10) (T := TX10) (N := 19) hx hb hts qIj hown hK hP 0 rfl rfl 1 (by decide) (hts _ qQk) (fun _ h9 => h9) rfl (qaa qkp 1 rfl) ?_
      refine va_get (D := (dC, dI)) (ci := 2) (v := .ref jbs) (C := RX2) (T := TX2) (N := 12) hx hb hts q7C hown hK hP 1 rfl rfl 0 (by decide) (hts _ qarq) (fun _ h9 => h9) rfl (qaa qkp 2 rfl) ?_
      refine lv_iload_n hx hb (qaa qkp 3 rfl) rfl (lv_at hl 1 rfl) ?_
      obtain ⟨hi9, hw⟩ := hw
      refine va_iald hx hb hK hP 4 1 rfl rfl hi9 (qaa qkp 4 rfl) ?_
      refine lv_topi (fun x5 ex5 => ?_)
      have hw := hw x5 ex5
      exact vx_ret (W.widen (k := 2) (n := 12) (nbq rfl) (nbq rfl) (W.iret (v := x5) hx hb hr (fun t ht hW => ⟨⟨x5, (x1, x2), rfl, hw, by rw [ht]; exact hP, va_K.moved hW.alike hK, hD⟩, hS.F ht⟩) hS.2.2 (qaa qkp 5 rfl)))
    · have hw := hw.2.1 c3
      refine lv_tableIn (tgt := 50) (off := 37) hx hb dX10_form_13 (by rw [c3]; decide) (by rw [c3]; decide) (by rw [c3]; decide) (by decide) ?_
      refine lv_aload_n hx hb (qaa qkp 6 rfl) rfl (lv_at hl 0 rfl) ?_
      refine va_get (D := (dC, dI)) (ci := 10) (v := .ref jaR) (C := RX10) (T := TX10) (N := 19) hx hb hts qIj hown hK hP 0 rfl rfl 1 (by decide) (hts _ qQk) (fun _ h9 => h9) rfl (qaa qkp 7 rfl) ?_
      refine va_get (D := (dC, dI)) (ci := 2) (v := .ref jbt) (C := RX2) (T := TX2) (N := 12) hx hb hts q7C hown hK hP 1 rfl rfl 1 (by decide) (hts _ qaqN) (fun _ h9 => h9) rfl (qaa qkp 8 rfl) ?_
      refine lv_iload_n hx hb (qaa qkp 9 rfl) rfl (lv_at hl 1 rfl) ?_
      obtain ⟨hi9, hw⟩ := hw
      refine va_iald hx hb hK hP 5 1 rfl rfl hi9 (qaa qkp 10 rfl) ?_
      refine lv_topi (fun x6 ex6 => ?_)
      have hw := hw x6 ex6
      exact vx_ret (W.widen (k := 2) (n := 12) (nbq rfl) (nbq rfl) (W.iret (v := x6) hx hb hr (fun t ht hW => ⟨⟨x6, (x1, x2), rfl, hw, by rw [ht]; exact hP, va_K.moved hW.alike hK, hD⟩, hS.F ht⟩) hS.2.2 (qaa qkp 11 rfl)))
    · have hw := hw.2.2 c3
      refine lv_tableIn (tgt := 60) (off := 47) hx hb dX10_form_13 (by rw [c3]; decide) (by rw [c3]; decide) (by rw [c3]; decide) (by decide) ?_
      refine lv_aload_n hx hb (qaa qkp 12 rfl) rfl (lv_at hl 0 rfl) ?_
      refine va_get (D := (dC, dI)) (ci := 10) (v := .ref jaR) (C := RX10) (T := TX10) (N := 19) hx hb hts qIj hown hK hP 0 rfl rfl 1 (by decide) (hts _ qQk) (fun _ h9 => h9) rfl (qaa qkp 13 rfl) ?_
      refine lv_iload_n hx hb (qaa qkp 14 rfl) rfl (lv_at hl 1 rfl) ?_
      obtain ⟨hCc, hPc, hDc, hFc⟩ := qac (ws' := (qa9w jaR jbs jbt jbo jbp jbk jbj jbf jbq jbE jbm jbi jdB)) hP hD hS hA [1] (by decide +kernel) rfl
      refine va_calli (va_runV (As := [.int p1]) (rest := []) ⟨hx, hb, hml, hown, hts⟩ (q3Z l dC dI cyB cyI cyJ cyP jaR H.size (.ref jbs) (.ref jbt) (jbo) (jbp) (jbk) (jbj) (jbf) (jbq) (.int jbE) (.int jbm) (jbi) jdB p1 hw) (cwV 1 hts gX10_form_X2_isSafe rfl rfl rfl (by decide +kernel) ⟨nbq rfl, nbq rfl⟩) ⟨qab, va_recv (q := (RX2, TX2, 12)) hK hPc (ci := 2) (q0 := 0) rfl rfl, qae hPc hK hDc hNw⟩ rfl rfl hl.1 rfl (lv_room (nbq rfl)) (qaa qkp 15 rfl) ⟨nbq rfl, nbq rfl⟩) hS (fun q _ h => hFc q h) hFc (fun r7 u t H1 locs ht hvm hw hB hz1 hk1 hS => ?_)
      obtain ⟨hP1, hK1, hD1⟩ := hB
      rw [ht] at hP1
      obtain ⟨hP, hD⟩ := qad (wr := [(a0, .inr (10, [jaK, .ref jaR, ja1, jcp, jbc, jbV, ja3, jbH, .ref jaT, jbO, jaq, jac, jbI, jbl, jbn, jba, jaa, .int x1, .int x2])), (jaT, .inr (1, [.ref jbb, jbr, .ref jaR, jfg])), (jbb, .inl (cyI, 64, .inl jbQ)), (jbs, .inl (cyI, 8, .inl jci)), (jbt, .inl (cyI, 8, .inl jcj))]) (w1 := (qa9w jaR jbs jbt jbo jbp jbk jbj jbf jbq jbE jbm jbi jdB)) (wn := (qzf a0 jaK jaR ja1 jcp jbc jbV ja3 jbH jaT jbO jaq jac jbI jbl jbn jba jaa x1 x2 jaR jbs jbt jbo jbp jbk jbj jbf jbq jbE jbm jbi jdB jaT jbb jbr jaR jfg jbb cyI jbQ jbs cyI jci jbt cyI jcj)) hP hD [1] [0, 2, 3, 4, 5] [0, 5, 1, 2, 3, 4] hCc rfl (by decide +kernel) (by decide +kernel) (by decide +kernel) rfl hk1 hFc hP1 hD1
      generalize H1 = H at hP hS ⊢
      refine lv_if_eq (tgt := 75) hx hb (qaa qqz 0 rfl) (by decide) (fun c8 => ?_) (fun c8 => ?_)
      · have hw := hw.1 c8
        refine lv_iconst (v := 0) hx hb (qaa qqz 3 rfl) (by decide) ?_
        exact vx_ret (W.widen (k := 2) (n := 12) (nbq rfl) (nbq rfl) (W.iret (v := 0) hx hb hr (fun t ht hW => ⟨⟨0, (x1, x2), rfl, hw, by rw [ht]; exact hP, va_K.moved hW.alike hK, hD⟩, hS.F ht⟩) hS.2.2 (qaa qqz 4 rfl)))
      · have hw := hw.2 c8
        refine lv_iconst (v := 1) hx hb (qaa qqz 1 rfl) (by decide) ?_
        refine lv_goto (tgt := 76) hx hb (qaa qqz 2 rfl) (by decide) ?_
        exact vx_ret (W.widen (k := 2) (n := 12) (nbq rfl) (nbq rfl) (W.iret (v := 1) hx hb hr (fun t ht hW => ⟨⟨1, (x1, x2), rfl, hw, by rw [ht]; exact hP, va_K.moved hW.alike hK, hD⟩, hS.F ht⟩) hS.2.2 (qaa qqz 4 rfl)))
theorem qaHo : (.classLink RL 13 "java/lang/IllegalArgumentException" : Cond) ∈ wsL_form := qacD 595 (by decide +kernel)
theorem q8e : (.classLink RL 31 "java/util/NoSuchElementException" : Cond) ∈ wsL_form := qacD 2643 (by decide +kernel)
theorem qaTk : (.codeWith yL_form cL_form 5 (some .int) [(0, 10, 13, 31), (0, 10, 17, 13)] : Cond) ∈ wsL_form := qacD 2642 (by decide +kernel)
set_option maxHeartbeats 4000000 in
set_option maxRecDepth 100000 in
theorem qa8W (l : Launch) (dC : Nat → ClassId) (dI : Nat → Nat → Nat) (cyB cyI cyJ cyP : ClassId) (a0 a3 jaR jaT jbb jbs jbt sz : Nat) (jaK ja1 jcp jbc jbV ja3 jbH jbO jaq jac jbI jbl jbn jba jaa jbo jbp jbk jbj jbf jbq jbi jbr jfg : Value) (n3 : Nat) (jbE jbm jdB : Int32) (jbQ jci jcj : NI) (jdu jbz : Int32) (f3 : Nat → Int64) (p1 p2 : Int32) {Q : Int32 → Int32 → Int32 → (Nat → Int64) → Prop} (hw : qaVa n3 jbE jbm jdB jbQ jci jcj jdu jbz f3 p1 p2 Q) : Met l yL_form wsL_form ({ frames := 9, cells := 2, slots := 12, locals := 186 }) (va_Pc [.ref a0, .int p1, .int p2, .ref a3] (cPx l (dC, dI) (kT cyB cyI cyJ cyP) (qMN a0 jaK jaR ja1 jcp jbc jbV ja3 jbH jaT jbO jaq jac jbI jbl jbn jba jaa jdu jbz jaR jbs jbt jbo jbp jbk jbj jbf jbq jbE jbm jbi jdB jaT jbb jbr jaR jfg jbb cyI jbQ jbs cyI jci jbt cyI jcj a3 cyJ n3 f3) sz)) (va_Qi (fun (r : Int32) (u : Int32 × Int32 × (Nat → Int64)) => Q r u.1 u.2.1 u.2.2) (cB (dC, dI) (kT cyB cyI cyJ cyP) (va_A (qMN a0 jaK jaR ja1 jcp jbc jbV ja3 jbH jaT jbO jaq jac jbI jbl jbn jba jaa jdu jbz jaR jbs jbt jbo jbp jbk jbj jbf jbq jbE jbm jbi jdB jaT jbb jbr jaR jfg jbb cyI jbQ jbs cyI jci jbt cyI jcj a3 cyJ n3 f3) sz) (fun u : Int32 × Int32 × (Nat → Int64) => ((qMN a0 jaK jaR ja1 jcp jbc jbV ja3 jbH jaT jbO jaq jac jbI jbl jbn jba jaa u.1 u.2.1 jaR jbs jbt jbo jbp jbk jbj jbf jbq jbE jbm jbi jdB jaT jbb jbr jaR jfg jbb cyI jbQ jbs cyI jci jbt cyI jcj a3 cyJ n3 u.2.2) : va_W))) (va_A (qMN a0 jaK jaR ja1 jcp jbc jbV ja3 jbH jaT jbO jaq jac jbI jbl jbn jba jaa jdu jbz jaR jbs jbt jbo jbp jbk jbj jbf jbq jbE jbm jbi jdB jaT jbb jbr jaR jfg jbb cyI jbQ jbs cyI jci jbt cyI jcj a3 cyJ n3 f3) sz)) 2 12 (va_A (qMN a0 jaK jaR ja1 jcp jbc jbV ja3 jbH jaT jbO jaq jac jbI jbl jbn jba jaa jdu jbz jaR jbs jbt jbo jbp jbk jbj jbf jbq jbE jbm jbi jdB jaT jbb jbr jaR jfg jbb cyI jbQ jbs cyI jci jbt cyI jcj a3 cyJ n3 f3) sz) := by
  refine va_MetW (cc := cL_form) (maxL := 5) (ret := (some .int)) (by decide) rfl ?_
  intro p e s m args below meth c s₁ B hml hv
  obtain ⟨rfl, hsz, hP, hK, hD0, hNw, hXl, hXu, hXn, hXt⟩ := hv
  have hx := B.exec
  have hb := B.bytes
  have hr := B.returns
  have hts := atoms_spec (ws := wsL_form) B.pre
  have hown : s.vm.findClass RL = some m.cls := findClass_of_methodNamed B.named
  have hlocks := B.notSynchronized
  subst hsz
  have hD := hD0.self (sz := s.heap.size)
  generalize hAe : va_A (qMN a0 jaK jaR ja1 jcp jbc jbV ja3 jbH jaT jbO jaq jac jbI jbl jbn jba jaa jdu jbz jaR jbs jbt jbo jbp jbk jbj jbf jbq jbE jbm jbi jdB jaT jbb jbr jaR jfg jbb cyI jbQ jbs cyI jci jbt cyI jcj a3 cyJ n3 f3) s.heap.size = A at hD hXu hXn ⊢
  have hA : ∀ q : Nat, s.heap.size ≤ q → A q := fun q h => by rw [← hAe]; exact Or.inr h
  have hS : va_S A s.heap s.heap [] := va_S.rf
  have hP : va_P (dC, dI) vwCl (qMN a0 jaK jaR ja1 jcp jbc jbV ja3 jbH jaT jbO jaq jac jbI jbl jbn jba jaa jdu jbz jaR jbs jbt jbo jbp jbk jbj jbf jbq jbE jbm jbi jdB jaT jbb jbr jaR jfg jbb cyI jbQ jbs cyI jci jbt cyI jcj a3 cyJ n3 f3) s.heap := hP
  have hl := lv_entry ([.ref a0, .int p1, .int p2, .ref a3]) (n := 5) (nbq rfl)
  rw [lg_entry_eq]
  generalize (lg_sl ([.ref a0, .int p1, .int p2, .ref a3]) ++ List.replicate (5 - (lg_sl ([.ref a0, .int p1, .int p2, .ref a3])).length) Slot.unset).toArray = ls at hl ⊢
  have hl : lv_has ls 5 [(0, .ref a0), (1, .int p1), (2, .int p2), (3, .ref a3)] := hl
  have hY : cfY l s A := ⟨hXl, hXu, hXn, hXt⟩
  have hTb := vx_table (x := yL_form) B (hts _ qaTk)
  clear hAe
  obtain ⟨H, hH⟩ : ∃ H, H = s.heap := ⟨_, rfl⟩
  rw [← hH] at hP ⊢
  have hS : va_S A s.heap H [] := by rw [hH]; exact va_S.rf
  have hS := hS
  refine lv_aload_n hx hb (qaa qp9 0 rfl) rfl (lv_at hl 3 rfl) ?_
  refine lv_iconst (v := 0) hx hb (qaa qp9 1 rfl) (by decide) ?_
  refine lv_aload_n hx hb (qaa qp9 2 rfl) rfl (lv_at hl 0 rfl) ?_
  refine lv_iload_n hx hb (qaa qp9 3 rfl) rfl (lv_at hl 1 rfl) ?_
  refine lv_iload_n hx hb (qaa qp9 4 rfl) rfl (lv_at hl 2 rfl) ?_
  obtain ⟨hCc, hPc, hDc, hFc⟩ := qac (ws' := (qzf a0 jaK jaR ja1 jcp jbc jbV ja3 jbH jaT jbO jaq jac jbI jbl jbn jba jaa jdu jbz jaR jbs jbt jbo jbp jbk jbj jbf jbq jbE jbm jbi jdB jaT jbb jbr jaR jfg jbb cyI jbQ jbs cyI jci jbt cyI jcj)) hP hD hS hA [0, 1, 2, 3, 4, 5] (by decide +kernel) rfl
  refine vx_calli (vx_runV (As := [.int p1, .int p2]) (rest := [.int 0, .ref a3]) ⟨hx, hb, hml, hown, hts⟩ (qaY2 l dC dI cyB cyI cyJ cyP a0 jaR jaT jbb jbs jbt H.size (jaK) (ja1) (jcp) (jbc) (jbV) (ja3) (jbH) (jbO) (jaq) (jac) (jbI) (jbl) (jbn) (jba) (jaa) (jbo) (jbp) (jbk) (jbj) (jbf) (jbq) (jbi) (jbr) (jfg) jbE jbm jdB jbQ jci jcj jdu jbz p1 p2 hw) (cwV 2 hts gL_form_X10_form rfl rfl rfl (by decide +kernel) ⟨nbq rfl, nbq rfl⟩) ⟨qav, va_recv (q := (RX10, TX10, 19)) hK hPc (ci := 10) (q0 := 0) rfl rfl, qbl hPc hK hDc hNw hY hS hFc⟩ rfl rfl hl.1 rfl (lv_room (nbq rfl)) (qaa qp9 5 rfl) ⟨nbq rfl, nbq rfl⟩) hS (fun q _ h => hFc q h) hFc (fun q _ h => hFc q h) (fun en ce qx9 u t H1 locs ht hvm hpx hB hz1 hk1 hS hc9 hv9 hcl9 => ?_) (fun r3 u t H1 locs ht hvm hw hB hz1 hk1 hS => ?_)
  · obtain ⟨x1, x2⟩ := u
    obtain ⟨hw, hP1, hK1, hD1⟩ := hB
    rw [ht] at hP1
    obtain ⟨hP, hD⟩ := qad (wr := [(a3, .inl (cyJ, n3, .inr (.inl f3)))]) (w1 := (qzf a0 jaK jaR ja1 jcp jbc jbV ja3 jbH jaT jbO jaq jac jbI jbl jbn jba jaa x1 x2 jaR jbs jbt jbo jbp jbk jbj jbf jbq jbE jbm jbi jdB jaT jbb jbr jaR jfg jbb cyI jbQ jbs cyI jci jbt cyI jcj)) (wn := (qMN a0 jaK jaR ja1 jcp jbc jbV ja3 jbH jaT jbO jaq jac jbI jbl jbn jba jaa x1 x2 jaR jbs jbt jbo jbp jbk jbj jbf jbq jbE jbm jbi jdB jaT jbb jbr jaR jfg jbb cyI jbQ jbs cyI jci jbt cyI jcj a3 cyJ n3 f3)) hP hD [0, 1, 2, 3, 4, 5] [6] [1, 2, 3, 4, 5, 6, 0] hCc rfl (by decide +kernel) (by decide +kernel) (by decide +kernel) rfl hk1 hFc hP1 hD1
    generalize H1 = H at hP hS hc9 ⊢
    rcases hw with ⟨rfl, hw⟩ | ⟨rfl, hw⟩
    · refine vx_catch (own := RL) (name := "java/util/NoSuchElementException") hown [] ⟨0, 10, 13, 31⟩ [⟨0, 10, 17, 13⟩] (hTb.trans rfl) (fun z hz => nomatch hz) (by decide) (by decide) (hts _ q8e) (va_Nw.use rfl (hY.2.2.2.1.2 _ (List.mem_of_getElem? (i := 1) rfl))) hc9 hv9 hcl9 ?_
      refine lv_astore (lv' := [(4, .ref qx9), (0, .ref a0), (1, .int p1), (2, .int p2), (3, .ref a3)]) hx hb (qaa qp9 9 rfl) hl (by decide) rfl (fun ls hl => ?_)
      refine lv_iconst (v := 1) hx hb (qaa qp9 10 rfl) (by decide) ?_
      exact (W.widen (k := 2) (n := 12) (nbq rfl) (nbq rfl) (W.iret (v := 1) hx hb hr (fun t ht hW => ⟨⟨1, (x1, x2, f3), rfl, hw, by rw [ht]; exact hP, va_K.moved hW.alike hK, hD⟩, hS.F ht⟩) hS.2.2 (qaa qp9 11 rfl)))
    · refine vx_catch (own := RL) (name := "java/lang/IllegalArgumentException") hown [⟨0, 10, 13, 31⟩] ⟨0, 10, 17, 13⟩ [] (hTb.trans rfl) (fun z hz => by rw [List.mem_singleton.mp hz]; exact Or.inr ⟨by decide, _, (hts _ q8e), hY.2.2.2.2.2⟩) (by decide) (by decide) (hts _ qaHo) (va_Nw.use rfl (hY.2.2.2.1.2 _ (List.mem_of_getElem? (i := 0) rfl))) hc9 hv9 hcl9 ?_
      refine lv_astore (lv' := [(4, .ref qx9), (0, .ref a0), (1, .int p1), (2, .int p2), (3, .ref a3)]) hx hb (qaa qp9 12 rfl) hl (by decide) rfl (fun ls hl => ?_)
      refine lv_iconst (v := 2) hx hb (qaa qp9 13 rfl) (by decide) ?_
      exact (W.widen (k := 2) (n := 12) (nbq rfl) (nbq rfl) (W.iret (v := 2) hx hb hr (fun t ht hW => ⟨⟨2, (x1, x2, f3), rfl, hw, by rw [ht]; exact hP, va_K.moved hW.alike hK, hD⟩, hS.F ht⟩) hS.2.2 (qaa qp9 14 rfl)))
  obtain ⟨x1, x2⟩ := u
  obtain ⟨hP1, hK1, hD1⟩ := hB
  rw [ht] at hP1
  obtain ⟨hP, hD⟩ := va_join (wr := [(a3, .inl (cyJ, n3, .inr (.inl f3)))]) (w1 := (qzf a0 jaK jaR ja1 jcp jbc jbV ja3 jbH jaT jbO jaq jac jbI jbl jbn jba jaa x1 x2 jaR jbs jbt jbo jbp jbk jbj jbf jbq jbE jbm jbi jdB jaT jbb jbr jaR jfg jbb cyI jbQ jbs cyI jci jbt cyI jcj)) hP hD [0, 1, 2, 3, 4, 5] [6] rfl rfl (by decide) (by decide) hk1 hFc hP1 hD1
  have hP : va_P (dC, dI) vwCl (qMN a0 jaK jaR ja1 jcp jbc jbV ja3 jbH jaT jbO jaq jac jbI jbl jbn jba jaa x1 x2 jaR jbs jbt jbo jbp jbk jbj jbf jbq jbE jbm jbi jdB jaT jbb jbr jaR jfg jbb cyI jbQ jbs cyI jci jbt cyI jcj a3 cyJ n3 f3) H1 := hP.sub [1, 2, 3, 4, 5, 6, 0] rfl
  have hD : va_D A (qMN a0 jaK jaR ja1 jcp jbc jbV ja3 jbH jaT jbO jaq jac jbI jbl jbn jba jaa x1 x2 jaR jbs jbt jbo jbp jbk jbj jbf jbq jbE jbm jbi jdB jaT jbb jbr jaR jfg jbb cyI jbQ jbs cyI jci jbt cyI jcj a3 cyJ n3 f3) := hD.sub [1, 2, 3, 4, 5, 6, 0] (by decide) rfl
  generalize H1 = H at hP hS ⊢
  refine lv_i2l (v := r3.toInt64) hx hb (qaa qp9 6 rfl) rfl ?_
  refine lv_topl (fun x4 ex4 => ?_)
  have hw := hw x4 ex4
  obtain ⟨hi9, hw⟩ := hw
  refine va_last hx hb hK hP hD hS 6 2 rfl rfl hi9 (qaa qp9 7 rfl) (fun H locs hP hD hS => ?_)
  obtain ⟨f5, ef5⟩ : ∃ y : Nat → Int64, y = vp_updL f3 (0 : Int32).toNatClampNeg x4 := ⟨_, rfl⟩
  have hw := hw f5 ef5
  have hP : va_P (dC, dI) vwCl (qMN a0 jaK jaR ja1 jcp jbc jbV ja3 jbH jaT jbO jaq jac jbI jbl jbn jba jaa x1 x2 jaR jbs jbt jbo jbp jbk jbj jbf jbq jbE jbm jbi jdB jaT jbb jbr jaR jfg jbb cyI jbQ jbs cyI jci jbt cyI jcj a3 cyJ n3 f5) H := by rw [ef5]; exact hP
  have hD : va_D A (qMN a0 jaK jaR ja1 jcp jbc jbV ja3 jbH jaT jbO jaq jac jbI jbl jbn jba jaa x1 x2 jaR jbs jbt jbo jbp jbk jbj jbf jbq jbE jbm jbi jdB jaT jbb jbr jaR jfg jbb cyI jbQ jbs cyI jci jbt cyI jcj a3 cyJ n3 f5) := by rw [ef5]; exact hD
  refine lv_goto (tgt := 21) hx hb (qaa qp9 8 rfl) (by decide) ?_
  refine lv_iconst (v := 0) hx hb (qaa qp9 15 rfl) (by decide) ?_
  exact (W.widen (k := 2) (n := 12) (nbq rfl) (nbq rfl) (W.iret (v := 0) hx hb hr (fun t ht hW => ⟨⟨0, (x1, x2, f5), rfl, hw, by rw [ht]; exact hP, va_K.moved hW.alike hK, hD⟩, hS.F ht⟩) hS.2.2 (qaa qaTY 0 rfl)))
theorem qaJt : ∀ w ∈ (qqw RX10 268 "java/util/NoSuchElementException" 13 qxz ["java/lang/RuntimeException", "java/lang/Exception"]).filter (fun w => !goodWord w), w ∈ xB := by decide +kernel
theorem qaFd : ∀ w ∈ Cond.classLink RX10 264 "java/util/NoSuchElementException" :: Cond.initialized "java/util/NoSuchElementException" :: qqw RX10 268 "java/util/NoSuchElementException" 13 qxz ["java/lang/RuntimeException", "java/lang/Exception"], vx_ot w = true := by decide +kernel
theorem qaGd : ∀ w ∈ (qqw RX10 268 "java/util/NoSuchElementException" 13 qxz ["java/lang/RuntimeException", "java/lang/Exception"]).filter goodWord, w ∈ wsX10_fox := by decide +kernel
theorem qD9 : ∀ w ∈ u_ws RX10 TX10 19, w ∈ wsX10_fox := uiM qyI qyN (by decide +kernel)
theorem qYF : ∀ w ∈ u_ws RX2 TX2 12, w ∈ wsX10_fox := uiM qyI qLp (by decide +kernel)
theorem qapG : (.classLink RX10 264 "java/util/NoSuchElementException" : Cond) ∈ wsX10_fox := qyI 2694 (by decide +kernel)
theorem qayy : (.fieldLink RX10 184 "MarchHares$Down" "foxes" "I" : Cond) ∈ wsX10_fox := qyI 2560 (by decide +kernel)
theorem qUx : (.fieldLink RX10 19 "MarchHares" "ground" "LMarchHares$Down;" : Cond) ∈ wsX10_fox := qyI 20 (by decide +kernel)
theorem q4h : (.fieldLink RX10 261 "MarchHares" "callsNoSuch" "I" : Cond) ∈ wsX10_fox := qyI 2696 (by decide +kernel)
theorem qaDS : (.fieldLink RX10 271 "MarchHares$Down" "foxX" "[I" : Cond) ∈ wsX10_fox := qyI 2822 (by decide +kernel)
theorem qaBR : (.fieldLink RX10 274 "MarchHares$Down" "foxY" "[I" : Cond) ∈ wsX10_fox := qyI 2823 (by decide +kernel)
theorem qai5 : (.initialized "java/util/NoSuchElementException" : Cond) ∈ wsX10_fox := qyI 2695 (by decide +kernel)
set_option maxHeartbeats 4000000 in
set_option maxRecDepth 100000 in
theorem qa2Y (l : Launch) (dC : Nat → ClassId) (dI : Nat → Nat → Nat) (cyB cyI cyJ cyP : ClassId) (a0 jaR jmt jmu sz : Nat) (jaK ja1 jcp jbc jbV ja3 jbH ja2 jbO jaq jac jbI jbl jbn jba jaa jcB jcC jbk jbj jbf jbq jef jgQ jcd : Value) (jls : Int32) (jnF jnG : NI) (jbz jdu p1 p2 : Int32) {E : String → Int32 → Int32 → Prop} {Q : Int32 → Int32 → Int32 → Prop} (hw : qajU jls jnF jnG jbz jdu p1 p2 E Q) : vx_Met l yX10_fox wsX10_fox ({ frames := 8, cells := 1, slots := 6, locals := 164 }) (va_Pc [.ref a0, .int p1, .int p2] (cPx l (dC, dI) (kT cyB cyI cyJ cyP) (qzE a0 jaK jaR ja1 jcp jbc jbV ja3 jbH ja2 jbO jaq jac jbI jbl jbn jba jaa jdu jbz jaR jcB jcC jmu jmt jbk jbj jbf jbq jef jgQ jls jcd jmt cyI jnF jmu cyI jnG) sz)) (va_Qi (fun (r : Int32) (u : Int32 × Int32) => Q r u.1 u.2) (cB (dC, dI) (kT cyB cyI cyJ cyP) (va_A (qzE a0 jaK jaR ja1 jcp jbc jbV ja3 jbH ja2 jbO jaq jac jbI jbl jbn jba jaa jdu jbz jaR jcB jcC jmu jmt jbk jbj jbf jbq jef jgQ jls jcd jmt cyI jnF jmu cyI jnG) sz) (fun u : Int32 × Int32 => ((qzE a0 jaK jaR ja1 jcp jbc jbV ja3 jbH ja2 jbO jaq jac jbI jbl jbn jba jaa u.2 u.1 jaR jcB jcC jmu jmt jbk jbj jbf jbq jef jgQ jls jcd jmt cyI jnF jmu cyI jnG) : va_W))) (va_A (qzE a0 jaK jaR ja1 jcp jbc jbV ja3 jbH ja2 jbO jaq jac jbI jbl jbn jba jaa jdu jbz jaR jcB jcC jmu jmt jbk jbj jbf jbq jef jgQ jls jcd jmt cyI jnF jmu cyI jnG) sz)) (vx_X (fun _ => True) (fun (en : String) (u : Int32 × Int32) (t : State) => E en u.1 u.2 ∧ cB (dC, dI) (kT cyB cyI cyJ cyP) (va_A (qzE a0 jaK jaR ja1 jcp jbc jbV ja3 jbH ja2 jbO jaq jac jbI jbl jbn jba jaa jdu jbz jaR jcB jcC jmu jmt jbk jbj jbf jbq jef jgQ jls jcd jmt cyI jnF jmu cyI jnG) sz) (fun u : Int32 × Int32 => ((qzE a0 jaK jaR ja1 jcp jbc jbV ja3 jbH ja2 jbO jaq jac jbI jbl jbn jba jaa u.2 u.1 jaR jcB jcC jmu jmt jbk jbj jbf jbq jef jgQ jls jcd jmt cyI jnF jmu cyI jnG) : va_W)) u t) (va_A (qzE a0 jaK jaR ja1 jcp jbc jbV ja3 jbH ja2 jbO jaq jac jbI jbl jbn jba jaa jdu jbz jaR jcB jcC jmu jmt jbk jbj jbf jbq jef jgQ jls jcd jmt cyI jnF jmu cyI jnG) sz)) 1 6 (va_A (qzE a0 jaK jaR ja1 jcp jbc jbV ja3 jbH ja2 jbO jaq jac jbI jbl jbn jba jaa jdu jbz jaR jcB jcC jmu jmt jbk jbj jbf jbq jef jgQ jls jcd jmt cyI jnF jmu cyI jnG) sz) := by
  refine vx_ofW (cc := cX10_fox) (maxL := 3) (ret := (some .int)) (by decide) rfl ?_
  intro p e s m args below meth c s₁ B hml hnt hv
  obtain ⟨rfl, hsz, hP, hK, hD0, hNw, hXl, hXu, hXn, hXt⟩ := hv
  have hx := B.exec
  have hb := B.bytes
  have hr := B.returns
  have hts := atoms_spec (ws := wsX10_fox) B.pre
  have hown : s.vm.findClass RX10 = some m.cls := findClass_of_methodNamed B.named
  have hlocks := B.notSynchronized
  subst hsz
  have hD := hD0.self (sz := s.heap.size)
  generalize hAe : va_A (qzE a0 jaK jaR ja1 jcp jbc jbV ja3 jbH ja2 jbO jaq jac jbI jbl jbn jba jaa jdu jbz jaR jcB jcC jmu jmt jbk jbj jbf jbq jef jgQ jls jcd jmt cyI jnF jmu cyI jnG) s.heap.size = A at hD hXu hXn ⊢
  have hA : ∀ q : Nat, s.heap.size ≤ q → A q := fun q h => by rw [← hAe]; exact Or.inr h
  have hS : va_S A s.heap s.heap [] := va_S.rf
  have hP : va_P (dC, dI) vwCl (qzE a0 jaK jaR ja1 jcp jbc jbV ja3 jbH ja2 jbO jaq jac jbI jbl jbn jba jaa jdu jbz jaR jcB jcC jmu jmt jbk jbj jbf jbq jef jgQ jls jcd jmt cyI jnF jmu cyI jnG) s.heap := hP
  have hl := lv_entry ([.ref a0, .int p1, .int p2]) (n := 3) (nbq rfl)
  rw [lg_entry_eq]
  generalize (lg_sl ([.ref a0, .int p1, .int p2]) ++ List.replicate (3 - (lg_sl ([.ref a0, .int p1, .int p2])).length) Slot.unset).toArray = ls at hl ⊢
  have hl : lv_has ls 3 [(0, .ref a0), (1, .int p1), (2, .int p2)] := hl
  have hY : cfY l s A := ⟨hXl, hXu, hXn, hXt⟩
  have hXs : cfX l s c A := ⟨hnt, hY⟩
  have C0 : cfx p s m _ meth c cX10_fox (some .int) wsX10_fox RX10 3 A (dC, dI) (kT cyB cyI cyJ cyP) ∧ cfX l s c A := ⟨⟨hx, hb, hr, hts, hown, hlocks, hml, hA, hK, hNw⟩, hXs⟩
  clear hAe
  obtain ⟨H, hH⟩ : ∃ H, H = s.heap := ⟨_, rfl⟩
  rw [← hH] at hP ⊢
  have hS : va_S A s.heap H [] := by rw [hH]; exact va_S.rf
  have hS := hS
  refine lv_iload_n hx hb (qaa qoj 0 rfl) rfl (lv_at hl 1 rfl) ?_
  refine lv_iconst (v := 0) hx hb (qaa qoj 1 rfl) (by decide) ?_
  refine lv_aload_n hx hb (qaa qoj 2 rfl) rfl (lv_at hl 0 rfl) ?_
  refine va_get (D := (dC, dI)) (ci := 10) (v := .ref jaR) (C := RX10) (T := TX10) (N := 19) hx hb hts qD9 hown hK hP 0 rfl rfl 1 (by decide) (hts _ qUx) (fun _ h9 => h9) rfl (qaa qoj 3 rfl) ?_
  refine va_get (D := (dC, dI)) (ci := 2) (v := .int jls) (C := RX2) (T := TX2) (N := 12) hx hb hts qYF hown hK hP 1 rfl rfl 10 (by decide) (hts _ qayy) (fun _ h9 => h9) rfl (qaa qoj 4 rfl) ?_
  refine lv_iconst (v := 1) hx hb (qaa qoj 5 rfl) (by decide) ?_
  refine lv_isub hx hb (qaa qoj 6 rfl) ?_
  obtain ⟨hCc, hPc, hDc, hFc⟩ := qac (ws' := []) hP hD hS hA [] (by decide +kernel) rfl
  refine va_calli (va_runS (As := [.int p1, .int 0, .int (jls - 1)]) (rest := []) ⟨hx, hb, hml, hown, hts⟩ (qzC l dC dI cyB cyI cyJ cyP H.size p1 0 (jls - 1) hw) (va_cwS 3 hts gX10_fox_X10_within rfl rfl rfl (by decide +kernel) ⟨nbq rfl, nbq rfl⟩) ⟨qab, qae hPc hK hDc hNw⟩ rfl rfl hl.1 rfl (lv_room (nbq rfl)) (qaa qoj 7 rfl) ⟨nbq rfl, nbq rfl⟩) hS (fun q _ h => hFc q h) hFc (fun r1 u t H1 locs ht hvm hw hB hz1 hk1 hS => ?_)
  obtain ⟨hP1, hK1, hD1⟩ := hB
  rw [ht] at hP1
  obtain ⟨hP, hD⟩ := qah (wr := (qzE a0 jaK jaR ja1 jcp jbc jbV ja3 jbH ja2 jbO jaq jac jbI jbl jbn jba jaa jdu jbz jaR jcB jcC jmu jmt jbk jbj jbf jbq jef jgQ jls jcd jmt cyI jnF jmu cyI jnG)) (w1 := []) (wn := (qzE a0 jaK jaR ja1 jcp jbc jbV ja3 jbH ja2 jbO jaq jac jbI jbl jbn jba jaa jdu jbz jaR jcB jcC jmu jmt jbk jbj jbf jbq jef jgQ jls jcd jmt cyI jnF jmu cyI jnG)) hP hD [] [0, 1, 2, 3] hCc rfl (by decide +kernel) (by decide +kernel) rfl hk1 hFc hP1 hD1
  generalize H1 = H at hP hS ⊢
  refine lv_if_ne (tgt := 38) hx hb (qaa qoj 8 rfl) (by decide) (fun c2 => ?_) (fun c2 => ?_)
  · have hw := hw.1 c2
    refine lv_aload_n hx hb (qaa qmG 4 rfl) rfl (lv_at hl 0 rfl) ?_
    refine lv_iload_n hx hb (qaa qmG 5 rfl) rfl (lv_at hl 2 rfl) ?_
    refine lv_iconst (v := 0) hx hb (qaa qmG 6 rfl) (by decide) ?_
    refine lv_iconst (v := 1) hx hb (qaa qmG 7 rfl) (by decide) ?_
    obtain ⟨hCc, hPc, hDc, hFc⟩ := qac (ws' := (qaXd a0 jaK jaR ja1 jcp jbc jbV ja3 jbH ja2 jbO jaq jac jbI jbl jbn jba jaa jdu jbz)) hP hD hS hA [0] (by decide +kernel) rfl
    refine vx_callv (vx_runV (As := [.int p2, .int 0, .int 1]) (rest := []) ⟨hx, hb, hml, hown, hts⟩ (qaV l dC dI cyB cyI cyJ cyP a0 H.size (jaK) (.ref jaR) (ja1) (jcp) (jbc) (jbV) (ja3) (jbH) (ja2) (jbO) (jaq) (jac) (jbI) (jbl) (jbn) (jba) (jaa) (.int jdu) jbz p2 0 1 hw) (cwV 3 hts gX10_fox_X10_needWithin rfl rfl rfl (by decide +kernel) ⟨nbq rfl, nbq rfl⟩) ⟨qav, va_recv (q := (RX10, TX10, 19)) hK hPc (ci := 10) (q0 := 0) rfl rfl, qbl hPc hK hDc hNw hY hS hFc⟩ rfl rfl hl.1 rfl (lv_room (nbq rfl)) (qaa qmG 8 rfl) ⟨nbq rfl, nbq rfl⟩) hS (fun q _ h => hFc q h) hFc (fun q _ h => hFc q h) (fun en ce q9 u t H1 locs ht hvm hpx hB hz1 hk1 hS hc9 hv9 hcl9 => ?_) (fun u t H1 locs ht hvm hw hB hz1 hk1 hS => ?_)
    · obtain ⟨x3, rfl⟩ : ∃ z, z = u := ⟨_, rfl⟩
      obtain ⟨hw, hP1, hK1, hD1⟩ := hB
      rw [ht] at hP1
      obtain ⟨hP, hD⟩ := qad (wr := (qa32 jaR jcB jcC jmu jmt jbk jbj jbf jbq jef jgQ jls jcd jmt cyI jnF jmu cyI jnG)) (w1 := (qaXd a0 jaK jaR ja1 jcp jbc jbV ja3 jbH ja2 jbO jaq jac jbI jbl jbn jba jaa jdu x3)) (wn := (qzE a0 jaK jaR ja1 jcp jbc jbV ja3 jbH ja2 jbO jaq jac jbI jbl jbn jba jaa jdu x3 jaR jcB jcC jmu jmt jbk jbj jbf jbq jef jgQ jls jcd jmt cyI jnF jmu cyI jnG)) hP hD [0] [1, 2, 3] [3, 0, 1, 2] hCc rfl (by decide +kernel) (by decide +kernel) (by decide +kernel) rfl hk1 hFc hP1 hD1
      generalize H1 = H at hP hS hc9 ⊢
      exact vx_out (fun x hx9 => (hXs.1 x hx9).elim) hlocks hc9 hv9 hcl9 (fun t2 ht2 hal2 => ⟨(x3, jdu), trivial, ⟨hw, by rw [ht2]; exact hP, va_K.moved hal2 hK, hD⟩, hS.F ht2⟩) hS.2.2 (nbq rfl) (nbq rfl)
    obtain ⟨x3, rfl⟩ : ∃ z, z = u := ⟨_, rfl⟩
    obtain ⟨hP1, hK1, hD1⟩ := hB
    rw [ht] at hP1
    obtain ⟨hP, hD⟩ := qad (wr := (qa32 jaR jcB jcC jmu jmt jbk jbj jbf jbq jef jgQ jls jcd jmt cyI jnF jmu cyI jnG)) (w1 := (qaXd a0 jaK jaR ja1 jcp jbc jbV ja3 jbH ja2 jbO jaq jac jbI jbl jbn jba jaa jdu x3)) (wn := (qzE a0 jaK jaR ja1 jcp jbc jbV ja3 jbH ja2 jbO jaq jac jbI jbl jbn jba jaa jdu x3 jaR jcB jcC jmu jmt jbk jbj jbf jbq jef jgQ jls jcd jmt cyI jnF jmu cyI jnG)) hP hD [0] [1, 2, 3] [3, 0, 1, 2] hCc rfl (by decide +kernel) (by decide +kernel) (by decide +kernel) rfl hk1 hFc hP1 hD1
    generalize H1 = H at hP hS ⊢
    refine lv_iload_n hx hb (qaa qmG 9 rfl) rfl (lv_at hl 2 rfl) ?_
    refine lv_if_ne (tgt := 61) hx hb (qaa qmG 10 rfl) (by decide) (fun c4 => ?_) (fun c4 => ?_)
    · have hw := hw.1 c4
      refine lv_aload_n hx hb (qaa qxi 1 rfl) rfl (lv_at hl 0 rfl) ?_
      refine va_get (D := (dC, dI)) (ci := 10) (v := .ref jaR) (C := RX10) (T := TX10) (N := 19) hx hb hts qD9 hown hK hP 0 rfl rfl 1 (by decide) (hts _ qUx) (fun _ h9 => h9) rfl (qaa qxi 2 rfl) ?_
      refine va_get (D := (dC, dI)) (ci := 2) (v := .ref jmt) (C := RX2) (T := TX2) (N := 12) hx hb hts qYF hown hK hP 1 rfl rfl 3 (by decide) (hts _ qaBR) (fun _ h9 => h9) rfl (qaa qxi 3 rfl) ?_
      refine lv_iload_n hx hb (qaa qxi 4 rfl) rfl (lv_at hl 1 rfl) ?_
      obtain ⟨hi9, hw⟩ := hw
      refine va_iald hx hb hK hP 2 1 rfl rfl hi9 (qaa qxi 5 rfl) ?_
      refine lv_topi (fun x5 ex5 => ?_)
      have hw := hw x5 ex5
      exact vx_ret (W.widen (k := 1) (n := 6) (nbq rfl) (nbq rfl) (W.iret (v := x5) hx hb hr (fun t ht hW => ⟨⟨x5, (x3, jdu), rfl, hw, by rw [ht]; exact hP, va_K.moved hW.alike hK, hD⟩, hS.F ht⟩) hS.2.2 (qaa qxi 6 rfl)))
    · have hw := hw.2 c4
      refine lv_aload_n hx hb (qaa qmG 11 rfl) rfl (lv_at hl 0 rfl) ?_
      refine va_get (D := (dC, dI)) (ci := 10) (v := .ref jaR) (C := RX10) (T := TX10) (N := 19) hx hb hts qD9 hown hK hP 0 rfl rfl 1 (by decide) (hts _ qUx) (fun _ h9 => h9) rfl (qaa qmG 12 rfl) ?_
      refine va_get (D := (dC, dI)) (ci := 2) (v := .ref jmu) (C := RX2) (T := TX2) (N := 12) hx hb hts qYF hown hK hP 1 rfl rfl 2 (by decide) (hts _ qaDS) (fun _ h9 => h9) rfl (qaa qmG 13 rfl) ?_
      refine lv_iload_n hx hb (qaa qmG 14 rfl) rfl (lv_at hl 1 rfl) ?_
      obtain ⟨hi9, hw⟩ := hw
      refine va_iald hx hb hK hP 3 1 rfl rfl hi9 (qaa qmG 15 rfl) ?_
      refine lv_topi (fun x6 ex6 => ?_)
      have hw := hw x6 ex6
      refine lv_goto (tgt := 70) hx hb (qaa qxi 0 rfl) (by decide) ?_
      exact vx_ret (W.widen (k := 1) (n := 6) (nbq rfl) (nbq rfl) (W.iret (v := x6) hx hb hr (fun t ht hW => ⟨⟨x6, (x3, jdu), rfl, hw, by rw [ht]; exact hP, va_K.moved hW.alike hK, hD⟩, hS.F ht⟩) hS.2.2 (qaa qxi 6 rfl)))
  · have hw := hw.2 c2
    refine lv_aload_n hx hb (qaa qoj 9 rfl) rfl (lv_at hl 0 rfl) ?_
    refine lv_dup hx hb (qaa qoj 10 rfl) rfl ?_
    refine va_get (D := (dC, dI)) (ci := 10) (v := .int jdu) (C := RX10) (T := TX10) (N := 19) hx hb hts qD9 hown hK hP 0 rfl rfl 17 (by decide) (hts _ q4h) (fun _ h9 => h9) rfl (qaa qoj 11 rfl) ?_
    refine lv_iconst (v := 1) hx hb (qaa qoj 12 rfl) (by decide) ?_
    refine lv_iadd hx hb (qaa qoj 13 rfl) ?_
    refine lv_topi (fun x7 ex7 => ?_)
    have hw := hw x7 ex7
    refine va_put (D := (dC, dI)) (ci := 10) (v := .int x7) (ty := .int) (C := RX10) (T := TX10) (N := 19) hx hb hts qD9 tyX10 tyX10_ok nmX10 hown hK hP hD hS 0 rfl rfl 17 (by decide) (hts _ q4h) (fun _ h9 => h9) rfl (by decide +kernel) rfl rfl (nbq rfl) (qaa qoj 14 rfl) (fun H locs hP hD hS => ?_)
    have hP : va_P (dC, dI) vwCl (qzE a0 jaK jaR ja1 jcp jbc jbV ja3 jbH ja2 jbO jaq jac jbI jbl jbn jba jaa x7 jbz jaR jcB jcC jmu jmt jbk jbj jbf jbq jef jgQ jls jcd jmt cyI jnF jmu cyI jnG) H := hP
    have hD : va_D A (qzE a0 jaK jaR ja1 jcp jbc jbV ja3 jbH ja2 jbO jaq jac jbI jbl jbn jba jaa x7 jbz jaR jcB jcC jmu jmt jbk jbj jbf jbq jef jgQ jls jcd jmt cyI jnF jmu cyI jnG) := hD
    obtain ⟨sa9, hsa9⟩ := hY.2.2.2.2.1 _ (List.mem_of_getElem? (i := 2) rfl)
    exact qakn hx hb hY.1 (own := RX10) (cls := "java/util/NoSuchElementException") (names := ["java/lang/RuntimeException", "java/lang/Exception"]) (ik := 264) (is := 266) (ic := 268) (rx := qxz) (by decide +kernel) (by decide +kernel) (by decide +kernel) (by decide +kernel) hown (by decide +kernel) (by decide +kernel) (hts _ qapG) (hts _ qai5) hsa9 (vx_hat (fun w hw9 => hts w (qaGd w hw9)) qaJt (qa1a hY.2.2.2.1)) qaFd hY.2.1 hY.2.2.1 hS (by rw [hml]; exact hl.1) (qaa qoj 15 rfl) (qaa qmG 0 rfl) (qaa qmG 1 rfl) (qaa qmG 2 rfl) (qaa qmG 3 rfl) (fun x hx9 => (hXs.1 x hx9).elim) (nbq rfl) (nbq rfl) (nbq rfl) (nbq rfl) hlocks (fun t hal hsz9 hq9 => ⟨(jbz, x7), trivial, ⟨hw, hP.kept (fun k q hk9 => hq9 _ ((hP k q hk9).lt)), va_K.moved hal hK, hD⟩, qau3 hS hsz9 hq9⟩) hS.2.2 (nbq rfl) (nbq rfl)
theorem qaRs : (.classLink RL 13 "java/lang/IllegalArgumentException" : Cond) ∈ wsL_fox := qavy 595 (by decide +kernel)
theorem qae7 : (.classLink RL 31 "java/util/NoSuchElementException" : Cond) ∈ wsL_fox := qavy 2643 (by decide +kernel)
theorem qaZ5 : (.codeWith yL_fox cL_fox 5 (some .int) [(0, 10, 13, 31), (0, 10, 17, 13)] : Cond) ∈ wsL_fox := qavy 2817 (by decide +kernel)
set_option maxHeartbeats 4000000 in
set_option maxRecDepth 100000 in
theorem qbcm (l : Launch) (dC : Nat → ClassId) (dI : Nat → Nat → Nat) (cyB cyI cyJ cyP : ClassId) (a0 a3 jaR jmt jmu sz : Nat) (jaK ja1 jcp jbc jbV ja3 jbH ja2 jbO jaq jac jbI jbl jbn jba jaa jcB jcC jbk jbj jbf jbq jef jgQ jcd : Value) (n3 : Nat) (jls : Int32) (jnF jnG : NI) (jbz jdu : Int32) (f3 : Nat → Int64) (p1 p2 : Int32) {Q : Int32 → Int32 → Int32 → (Nat → Int64) → Prop} (hw : qa0D n3 jls jnF jnG jbz jdu f3 p1 p2 Q) : Met l yL_fox wsL_fox ({ frames := 9, cells := 1, slots := 6, locals := 186 }) (va_Pc [.ref a0, .int p1, .int p2, .ref a3] (cPx l (dC, dI) (kT cyB cyI cyJ cyP) (qL5 a0 jaK jaR ja1 jcp jbc jbV ja3 jbH ja2 jbO jaq jac jbI jbl jbn jba jaa jdu jbz jaR jcB jcC jmu jmt jbk jbj jbf jbq jef jgQ jls jcd jmt cyI jnF jmu cyI jnG a3 cyJ n3 f3) sz)) (va_Qi (fun (r : Int32) (u : Int32 × Int32 × (Nat → Int64)) => Q r u.1 u.2.1 u.2.2) (cB (dC, dI) (kT cyB cyI cyJ cyP) (va_A (qL5 a0 jaK jaR ja1 jcp jbc jbV ja3 jbH ja2 jbO jaq jac jbI jbl jbn jba jaa jdu jbz jaR jcB jcC jmu jmt jbk jbj jbf jbq jef jgQ jls jcd jmt cyI jnF jmu cyI jnG a3 cyJ n3 f3) sz) (fun u : Int32 × Int32 × (Nat → Int64) => ((qL5 a0 jaK jaR ja1 jcp jbc jbV ja3 jbH ja2 jbO jaq jac jbI jbl jbn jba jaa u.2.1 u.1 jaR jcB jcC jmu jmt jbk jbj jbf jbq jef jgQ jls jcd jmt cyI jnF jmu cyI jnG a3 cyJ n3 u.2.2) : va_W))) (va_A (qL5 a0 jaK jaR ja1 jcp jbc jbV ja3 jbH ja2 jbO jaq jac jbI jbl jbn jba jaa jdu jbz jaR jcB jcC jmu jmt jbk jbj jbf jbq jef jgQ jls jcd jmt cyI jnF jmu cyI jnG a3 cyJ n3 f3) sz)) 1 6 (va_A (qL5 a0 jaK jaR ja1 jcp jbc jbV ja3 jbH ja2 jbO jaq jac jbI jbl jbn jba jaa jdu jbz jaR jcB jcC jmu jmt jbk jbj jbf jbq jef jgQ jls jcd jmt cyI jnF jmu cyI jnG a3 cyJ n3 f3) sz) := by
  refine va_MetW (cc := cL_fox) (maxL := 5) (ret := (some .int)) (by decide) rfl ?_
  intro p e s m args below meth c s₁ B hml hv
  obtain ⟨rfl, hsz, hP, hK, hD0, hNw, hXl, hXu, hXn, hXt⟩ := hv
  have hx := B.exec
  have hb := B.bytes
  have hr := B.returns
  have hts := atoms_spec (ws := wsL_fox) B.pre
  have hown : s.vm.findClass RL = some m.cls := findClass_of_methodNamed B.named
  have hlocks := B.notSynchronized
  subst hsz
  have hD := hD0.self (sz := s.heap.size)
  generalize hAe : va_A (qL5 a0 jaK jaR ja1 jcp jbc jbV ja3 jbH ja2 jbO jaq jac jbI jbl jbn jba jaa jdu jbz jaR jcB jcC jmu jmt jbk jbj jbf jbq jef jgQ jls jcd jmt cyI jnF jmu cyI jnG a3 cyJ n3 f3) s.heap.size = A at hD hXu hXn ⊢
  have hA : ∀ q : Nat, s.heap.size ≤ q → A q := fun q h => by rw [← hAe]; exact Or.inr h
  have hS : va_S A s.heap s.heap [] := va_S.rf
  have hP : va_P (dC, dI) vwCl (qL5 a0 jaK jaR ja1 jcp jbc jbV ja3 jbH ja2 jbO jaq jac jbI jbl jbn jba jaa jdu jbz jaR jcB jcC jmu jmt jbk jbj jbf jbq jef jgQ jls jcd jmt cyI jnF jmu cyI jnG a3 cyJ n3 f3) s.heap := hP
  have hl := lv_entry ([.ref a0, .int p1, .int p2, .ref a3]) (n := 5) (nbq rfl)
  rw [lg_entry_eq]
  generalize (lg_sl ([.ref a0, .int p1, .int p2, .ref a3]) ++ List.replicate (5 - (lg_sl ([.ref a0, .int p1, .int p2, .ref a3])).length) Slot.unset).toArray = ls at hl ⊢
  have hl : lv_has ls 5 [(0, .ref a0), (1, .int p1), (2, .int p2), (3, .ref a3)] := hl
  have hY : cfY l s A := ⟨hXl, hXu, hXn, hXt⟩
  have hTb := vx_table (x := yL_fox) B (hts _ qaZ5)
  clear hAe
  obtain ⟨H, hH⟩ : ∃ H, H = s.heap := ⟨_, rfl⟩
  rw [← hH] at hP ⊢
  have hS : va_S A s.heap H [] := by rw [hH]; exact va_S.rf
  have hS := hS
  refine lv_aload_n hx hb (qaa qss 0 rfl) rfl (lv_at hl 3 rfl) ?_
  refine lv_iconst (v := 0) hx hb (qaa qss 1 rfl) (by decide) ?_
  refine lv_aload_n hx hb (qaa qss 2 rfl) rfl (lv_at hl 0 rfl) ?_
  refine lv_iload_n hx hb (qaa qss 3 rfl) rfl (lv_at hl 1 rfl) ?_
  refine lv_iload_n hx hb (qaa qss 4 rfl) rfl (lv_at hl 2 rfl) ?_
  obtain ⟨hCc, hPc, hDc, hFc⟩ := qac (ws' := (qzE a0 jaK jaR ja1 jcp jbc jbV ja3 jbH ja2 jbO jaq jac jbI jbl jbn jba jaa jdu jbz jaR jcB jcC jmu jmt jbk jbj jbf jbq jef jgQ jls jcd jmt cyI jnF jmu cyI jnG)) hP hD hS hA [0, 1, 2, 3] (by decide +kernel) rfl
  refine vx_calli (vx_runV (As := [.int p1, .int p2]) (rest := [.int 0, .ref a3]) ⟨hx, hb, hml, hown, hts⟩ (qa2Y l dC dI cyB cyI cyJ cyP a0 jaR jmt jmu H.size (jaK) (ja1) (jcp) (jbc) (jbV) (ja3) (jbH) (ja2) (jbO) (jaq) (jac) (jbI) (jbl) (jbn) (jba) (jaa) (jcB) (jcC) (jbk) (jbj) (jbf) (jbq) (jef) (jgQ) (jcd) jls jnF jnG jbz jdu p1 p2 hw) (cwV 2 hts gL_fox_X10_fox rfl rfl rfl (by decide +kernel) ⟨nbq rfl, nbq rfl⟩) ⟨qav, va_recv (q := (RX10, TX10, 19)) hK hPc (ci := 10) (q0 := 0) rfl rfl, qbl hPc hK hDc hNw hY hS hFc⟩ rfl rfl hl.1 rfl (lv_room (nbq rfl)) (qaa qss 5 rfl) ⟨nbq rfl, nbq rfl⟩) hS (fun q _ h => hFc q h) hFc (fun q _ h => hFc q h) (fun en ce qx9 u t H1 locs ht hvm hpx hB hz1 hk1 hS hc9 hv9 hcl9 => ?_) (fun r3 u t H1 locs ht hvm hw hB hz1 hk1 hS => ?_)
  · obtain ⟨x1, x2⟩ := u
    obtain ⟨hw, hP1, hK1, hD1⟩ := hB
    rw [ht] at hP1
    obtain ⟨hP, hD⟩ := qad (wr := [(a3, .inl (cyJ, n3, .inr (.inl f3)))]) (w1 := (qzE a0 jaK jaR ja1 jcp jbc jbV ja3 jbH ja2 jbO jaq jac jbI jbl jbn jba jaa x2 x1 jaR jcB jcC jmu jmt jbk jbj jbf jbq jef jgQ jls jcd jmt cyI jnF jmu cyI jnG)) (wn := (qL5 a0 jaK jaR ja1 jcp jbc jbV ja3 jbH ja2 jbO jaq jac jbI jbl jbn jba jaa x2 x1 jaR jcB jcC jmu jmt jbk jbj jbf jbq jef jgQ jls jcd jmt cyI jnF jmu cyI jnG a3 cyJ n3 f3)) hP hD [0, 1, 2, 3] [4] [1, 2, 3, 4, 0] hCc rfl (by decide +kernel) (by decide +kernel) (by decide +kernel) rfl hk1 hFc hP1 hD1
    generalize H1 = H at hP hS hc9 ⊢
    rcases hw with ⟨rfl, hw⟩ | ⟨rfl, hw⟩
    · refine vx_catch (own := RL) (name := "java/util/NoSuchElementException") hown [] ⟨0, 10, 13, 31⟩ [⟨0, 10, 17, 13⟩] (hTb.trans rfl) (fun z hz => nomatch hz) (by decide) (by decide) (hts _ qae7) (va_Nw.use rfl (hY.2.2.2.1.2 _ (List.mem_of_getElem? (i := 1) rfl))) hc9 hv9 hcl9 ?_
      refine lv_astore (lv' := [(4, .ref qx9), (0, .ref a0), (1, .int p1), (2, .int p2), (3, .ref a3)]) hx hb (qaa qss 9 rfl) hl (by decide) rfl (fun ls hl => ?_)
      refine lv_iconst (v := 1) hx hb (qaa qss 10 rfl) (by decide) ?_
      exact (W.widen (k := 1) (n := 6) (nbq rfl) (nbq rfl) (W.iret (v := 1) hx hb hr (fun t ht hW => ⟨⟨1, (x1, x2, f3), rfl, hw, by rw [ht]; exact hP, va_K.moved hW.alike hK, hD⟩, hS.F ht⟩) hS.2.2 (qaa qss 11 rfl)))
    · refine vx_catch (own := RL) (name := "java/lang/IllegalArgumentException") hown [⟨0, 10, 13, 31⟩] ⟨0, 10, 17, 13⟩ [] (hTb.trans rfl) (fun z hz => by rw [List.mem_singleton.mp hz]; exact Or.inr ⟨by decide, _, (hts _ qae7), hY.2.2.2.2.2⟩) (by decide) (by decide) (hts _ qaRs) (va_Nw.use rfl (hY.2.2.2.1.2 _ (List.mem_of_getElem? (i := 0) rfl))) hc9 hv9 hcl9 ?_
      refine lv_astore (lv' := [(4, .ref qx9), (0, .ref a0), (1, .int p1), (2, .int p2), (3, .ref a3)]) hx hb (qaa qss 12 rfl) hl (by decide) rfl (fun ls hl => ?_)
      refine lv_iconst (v := 2) hx hb (qaa qss 13 rfl) (by decide) ?_
      exact (W.widen (k := 1) (n := 6) (nbq rfl) (nbq rfl) (W.iret (v := 2) hx hb hr (fun t ht hW => ⟨⟨2, (x1, x2, f3), rfl, hw, by rw [ht]; exact hP, va_K.moved hW.alike hK, hD⟩, hS.F ht⟩) hS.2.2 (qaa qss 14 rfl)))
  obtain ⟨x1, x2⟩ := u
  obtain ⟨hP1, hK1, hD1⟩ := hB
  rw [ht] at hP1
  obtain ⟨hP, hD⟩ := va_join (wr := [(a3, .inl (cyJ, n3, .inr (.inl f3)))]) (w1 := (qzE a0 jaK jaR ja1 jcp jbc jbV ja3 jbH ja2 jbO jaq jac jbI jbl jbn jba jaa x2 x1 jaR jcB jcC jmu jmt jbk jbj jbf jbq jef jgQ jls jcd jmt cyI jnF jmu cyI jnG)) hP hD [0, 1, 2, 3] [4] rfl rfl (by decide) (by decide) hk1 hFc hP1 hD1
  have hP : va_P (dC, dI) vwCl (qL5 a0 jaK jaR ja1 jcp jbc jbV ja3 jbH ja2 jbO jaq jac jbI jbl jbn jba jaa x2 x1 jaR jcB jcC jmu jmt jbk jbj jbf jbq jef jgQ jls jcd jmt cyI jnF jmu cyI jnG a3 cyJ n3 f3) H1 := hP.sub [1, 2, 3, 4, 0] rfl
  have hD : va_D A (qL5 a0 jaK jaR ja1 jcp jbc jbV ja3 jbH ja2 jbO jaq jac jbI jbl jbn jba jaa x2 x1 jaR jcB jcC jmu jmt jbk jbj jbf jbq jef jgQ jls jcd jmt cyI jnF jmu cyI jnG a3 cyJ n3 f3) := hD.sub [1, 2, 3, 4, 0] (by decide) rfl
  generalize H1 = H at hP hS ⊢
  refine lv_i2l (v := r3.toInt64) hx hb (qaa qss 6 rfl) rfl ?_
  refine lv_topl (fun x4 ex4 => ?_)
  have hw := hw x4 ex4
  obtain ⟨hi9, hw⟩ := hw
  refine va_last hx hb hK hP hD hS 4 2 rfl rfl hi9 (qaa qss 7 rfl) (fun H locs hP hD hS => ?_)
  obtain ⟨f5, ef5⟩ : ∃ y : Nat → Int64, y = vp_updL f3 (0 : Int32).toNatClampNeg x4 := ⟨_, rfl⟩
  have hw := hw f5 ef5
  have hP : va_P (dC, dI) vwCl (qL5 a0 jaK jaR ja1 jcp jbc jbV ja3 jbH ja2 jbO jaq jac jbI jbl jbn jba jaa x2 x1 jaR jcB jcC jmu jmt jbk jbj jbf jbq jef jgQ jls jcd jmt cyI jnF jmu cyI jnG a3 cyJ n3 f5) H := by rw [ef5]; exact hP
  have hD : va_D A (qL5 a0 jaK jaR ja1 jcp jbc jbV ja3 jbH ja2 jbO jaq jac jbI jbl jbn jba jaa x2 x1 jaR jcB jcC jmu jmt jbk jbj jbf jbq jef jgQ jls jcd jmt cyI jnF jmu cyI jnG a3 cyJ n3 f5) := by rw [ef5]; exact hD
  refine lv_goto (tgt := 21) hx hb (qaa qss 8 rfl) (by decide) ?_
  refine lv_iconst (v := 0) hx hb (qaa qss 15 rfl) (by decide) ?_
  exact (W.widen (k := 1) (n := 6) (nbq rfl) (nbq rfl) (W.iret (v := 0) hx hb hr (fun t ht hW => ⟨⟨0, (x1, x2, f5), rfl, hw, by rw [ht]; exact hP, va_K.moved hW.alike hK, hD⟩, hS.F ht⟩) hS.2.2 (qaa qaZp 0 rfl)))
theorem qbgH {x : Int32} (h : ¬ (x.toInt < 0 ∨ 6 < x.toInt)) : x = 0 ∨ x = 1 ∨ x = 2 ∨ x = 3 ∨ x = 4 ∨ x = 5 ∨ x = 6 := by
  obtain ⟨j, hj, e⟩ := nI_of (x := x) (fun h0 => h (Or.inl (Int.lt_of_lt_of_le (by simpa using (Int32.lt_iff_toInt_lt.mp h0)) (by decide : (0 : Int) ≤ 0))))
  have h2 : (j : Int) ≤ 6 ∧ 0 ≤ (j : Int) := by
    have := nI_toInt hj
    rw [e] at h
    omega
  have h3 : j = 0 ∨ j = 1 ∨ j = 2 ∨ j = 3 ∨ j = 4 ∨ j = 5 ∨ j = 6 := by omega
  rw [e]
  rcases h3 with rfl | rfl | rfl | rfl | rfl | rfl | rfl <;> decide
theorem qqK : ∀ w ∈ u_ws RX10 TX10 19, w ∈ wsX10_hare := uiM qkE qyN (by decide +kernel)
theorem qaHf : ∀ w ∈ u_ws RX2 TX2 12, w ∈ wsX10_hare := uiM qkE qLp (by decide +kernel)
theorem qaCp : (.fieldLink RX10 19 "MarchHares" "ground" "LMarchHares$Down;" : Cond) ∈ wsX10_hare := qkE 20 (by decide +kernel)
theorem qaua : (.fieldLink RX10 239 "MarchHares$Down" "strength" "[I" : Cond) ∈ wsX10_hare := qkE 2754 (by decide +kernel)
theorem qsk : (.fieldLink RX10 58 "MarchHares" "now" "LMarchHares$Days;" : Cond) ∈ wsX10_hare := qkE 79 (by decide +kernel)
set_option maxHeartbeats 4000000 in
set_option maxRecDepth 100000 in
theorem qaXO (l : Launch) (dC : Nat → ClassId) (dI : Nat → Nat → Nat) (cyB cyI cyJ cyP : ClassId) (a0 jaR jaT jbb jb6 jcc jcl jbW jbL jcF sz : Nat) (jaK ja1 jcp jbc jbV ja3 jbH jbO jaq jac jbI jbl jbn jba jaa jcB jcC jbo jbp jbk jbf jbq jef jbi jcd jbr : Value) (jbm : Int32) (jbQ : NI) (jdh : Int32) (jdN jdi jfS : NI) (jdu jbz : Int32) (jfl jfM : NI) (p1 p2 : Int32) {E : String → Int32 → Int32 → NI → NI → Prop} {Q : Int32 → Int32 → Int32 → NI → NI → Prop} (hw : qabU jbm jbQ jdh jdN jdi jfS jdu jbz jfl jfM p1 p2 E Q) : vx_Met l yX10_hare wsX10_hare ({ frames := 8, cells := 2, slots := 12, locals := 164 }) (va_Pc [.ref a0, .int p1, .int p2] (cPx l (dC, dI) (kT cyB cyI cyJ cyP) (qvY a0 jaK jaR ja1 jcp jbc jbV ja3 jbH jaT jbO jaq jac jbI jbl jbn jba jaa jdu jbz jaR jcB jcC jbo jbp jbk jcF jbf jbq jef jbm jbi jcd jaT jbb jbr jaR jb6 jbb cyI jbQ jb6 jbW jbL jcl jcc jdh jcc cyI jfl jcl cyI jfM jbW cyI jdN jbL cyI jdi jcF cyI jfS) sz)) (va_Qi (fun (r : Int32) (u : Int32 × Int32 × NI × NI) => Q r u.1 u.2.1 u.2.2.1 u.2.2.2) (cB (dC, dI) (kT cyB cyI cyJ cyP) (va_A (qvY a0 jaK jaR ja1 jcp jbc jbV ja3 jbH jaT jbO jaq jac jbI jbl jbn jba jaa jdu jbz jaR jcB jcC jbo jbp jbk jcF jbf jbq jef jbm jbi jcd jaT jbb jbr jaR jb6 jbb cyI jbQ jb6 jbW jbL jcl jcc jdh jcc cyI jfl jcl cyI jfM jbW cyI jdN jbL cyI jdi jcF cyI jfS) sz) (fun u : Int32 × Int32 × NI × NI => ((qvY a0 jaK jaR ja1 jcp jbc jbV ja3 jbH jaT jbO jaq jac jbI jbl jbn jba jaa u.1 u.2.1 jaR jcB jcC jbo jbp jbk jcF jbf jbq jef jbm jbi jcd jaT jbb jbr jaR jb6 jbb cyI jbQ jb6 jbW jbL jcl jcc jdh jcc cyI u.2.2.1 jcl cyI u.2.2.2 jbW cyI jdN jbL cyI jdi jcF cyI jfS) : va_W))) (va_A (qvY a0 jaK jaR ja1 jcp jbc jbV ja3 jbH jaT jbO jaq jac jbI jbl jbn jba jaa jdu jbz jaR jcB jcC jbo jbp jbk jcF jbf jbq jef jbm jbi jcd jaT jbb jbr jaR jb6 jbb cyI jbQ jb6 jbW jbL jcl jcc jdh jcc cyI jfl jcl cyI jfM jbW cyI jdN jbL cyI jdi jcF cyI jfS) sz)) (vx_X (fun _ => True) (fun (en : String) (u : Int32 × Int32 × NI × NI) (t : State) => E en u.1 u.2.1 u.2.2.1 u.2.2.2 ∧ cB (dC, dI) (kT cyB cyI cyJ cyP) (va_A (qvY a0 jaK jaR ja1 jcp jbc jbV ja3 jbH jaT jbO jaq jac jbI jbl jbn jba jaa jdu jbz jaR jcB jcC jbo jbp jbk jcF jbf jbq jef jbm jbi jcd jaT jbb jbr jaR jb6 jbb cyI jbQ jb6 jbW jbL jcl jcc jdh jcc cyI jfl jcl cyI jfM jbW cyI jdN jbL cyI jdi jcF cyI jfS) sz) (fun u : Int32 × Int32 × NI × NI => ((qvY a0 jaK jaR ja1 jcp jbc jbV ja3 jbH jaT jbO jaq jac jbI jbl jbn jba jaa u.1 u.2.1 jaR jcB jcC jbo jbp jbk jcF jbf jbq jef jbm jbi jcd jaT jbb jbr jaR jb6 jbb cyI jbQ jb6 jbW jbL jcl jcc jdh jcc cyI u.2.2.1 jcl cyI u.2.2.2 jbW cyI jdN jbL cyI jdi jcF cyI jfS) : va_W)) u t) (va_A (qvY a0 jaK jaR ja1 jcp jbc jbV ja3 jbH jaT jbO jaq jac jbI jbl jbn jba jaa jdu jbz jaR jcB jcC jbo jbp jbk jcF jbf jbq jef jbm jbi jcd jaT jbb jbr jaR jb6 jbb cyI jbQ jb6 jbW jbL jcl jcc jdh jcc cyI jfl jcl cyI jfM jbW cyI jdN jbL cyI jdi jcF cyI jfS) sz)) 2 12 (va_A (qvY a0 jaK jaR ja1 jcp jbc jbV ja3 jbH jaT jbO jaq jac jbI jbl jbn jba jaa jdu jbz jaR jcB jcC jbo jbp jbk jcF jbf jbq jef jbm jbi jcd jaT jbb jbr jaR jb6 jbb cyI jbQ jb6 jbW jbL jcl jcc jdh jcc cyI jfl jcl cyI jfM jbW cyI jdN jbL cyI jdi jcF cyI jfS) sz) := by
  refine vx_ofW (cc := cX10_hare) (maxL := 3) (ret := (some .int)) (by decide) rfl ?_
  intro p e s m args below meth c s₁ B hml hnt hv
  obtain ⟨rfl, hsz, hP, hK, hD0, hNw, hXl, hXu, hXn, hXt⟩ := hv
  have hx := B.exec
  have hb := B.bytes
  have hr := B.returns
  have hts := atoms_spec (ws := wsX10_hare) B.pre
  have hown : s.vm.findClass RX10 = some m.cls := findClass_of_methodNamed B.named
  have hlocks := B.notSynchronized
  subst hsz
  have hD := hD0.self (sz := s.heap.size)
  generalize hAe : va_A (qvY a0 jaK jaR ja1 jcp jbc jbV ja3 jbH jaT jbO jaq jac jbI jbl jbn jba jaa jdu jbz jaR jcB jcC jbo jbp jbk jcF jbf jbq jef jbm jbi jcd jaT jbb jbr jaR jb6 jbb cyI jbQ jb6 jbW jbL jcl jcc jdh jcc cyI jfl jcl cyI jfM jbW cyI jdN jbL cyI jdi jcF cyI jfS) s.heap.size = A at hD hXu hXn ⊢
  have hA : ∀ q : Nat, s.heap.size ≤ q → A q := fun q h => by rw [← hAe]; exact Or.inr h
  have hS : va_S A s.heap s.heap [] := va_S.rf
  have hP : va_P (dC, dI) vwCl (qvY a0 jaK jaR ja1 jcp jbc jbV ja3 jbH jaT jbO jaq jac jbI jbl jbn jba jaa jdu jbz jaR jcB jcC jbo jbp jbk jcF jbf jbq jef jbm jbi jcd jaT jbb jbr jaR jb6 jbb cyI jbQ jb6 jbW jbL jcl jcc jdh jcc cyI jfl jcl cyI jfM jbW cyI jdN jbL cyI jdi jcF cyI jfS) s.heap := hP
  have hl := lv_entry ([.ref a0, .int p1, .int p2]) (n := 3) (nbq rfl)
  rw [lg_entry_eq]
  generalize (lg_sl ([.ref a0, .int p1, .int p2]) ++ List.replicate (3 - (lg_sl ([.ref a0, .int p1, .int p2])).length) Slot.unset).toArray = ls at hl ⊢
  have hl : lv_has ls 3 [(0, .ref a0), (1, .int p1), (2, .int p2)] := hl
  have hY : cfY l s A := ⟨hXl, hXu, hXn, hXt⟩
  have hXs : cfX l s c A := ⟨hnt, hY⟩
  have C0 : cfx p s m _ meth c cX10_hare (some .int) wsX10_hare RX10 3 A (dC, dI) (kT cyB cyI cyJ cyP) ∧ cfX l s c A := ⟨⟨hx, hb, hr, hts, hown, hlocks, hml, hA, hK, hNw⟩, hXs⟩
  clear hAe
  obtain ⟨H, hH⟩ : ∃ H, H = s.heap := ⟨_, rfl⟩
  rw [← hH] at hP ⊢
  have hS : va_S A s.heap H [] := by rw [hH]; exact va_S.rf
  have hS := hS
  refine lv_aload_n hx hb (qaa quZ 0 rfl) rfl (lv_at hl 0 rfl) ?_
  refine lv_iload_n hx hb (qaa quZ 1 rfl) rfl (lv_at hl 1 rfl) ?_
  obtain ⟨hCc, hPc, hDc, hFc⟩ := qac (ws' := (qaZQ a0 jaK jaR ja1 jcp jbc jbV ja3 jbH jaT jbO jaq jac jbI jbl jbn jba jaa jdu jbz jaR jcB jcC jbo jbp jbk jcF jbf jbq jef jbm jbi jcd)) hP hD hS hA [0, 1] (by decide +kernel) rfl
  refine vx_callv (vx_runV (As := [.int p1]) (rest := []) ⟨hx, hb, hml, hown, hts⟩ (qqt l dC dI cyB cyI cyJ cyP a0 jaR H.size (jaK) (ja1) (jcp) (jbc) (jbV) (ja3) (jbH) (.ref jaT) (jbO) (jaq) (jac) (jbI) (jbl) (jbn) (jba) (jaa) (.int jbz) (jcB) (jcC) (jbo) (jbp) (jbk) (.ref jcF) (jbf) (jbq) (jef) (jbi) (jcd) jbm jdu p1 hw) (cwV 1 hts gX10_hare_X10_needHare rfl rfl rfl (by decide +kernel) ⟨nbq rfl, nbq rfl⟩) ⟨qav, va_recv (q := (RX10, TX10, 19)) hK hPc (ci := 10) (q0 := 0) rfl rfl, qbl hPc hK hDc hNw hY hS hFc⟩ rfl rfl hl.1 rfl (lv_room (nbq rfl)) (qaa quZ 2 rfl) ⟨nbq rfl, nbq rfl⟩) hS (fun q _ h => hFc q h) hFc (fun q _ h => hFc q h) (fun en ce q9 u t H1 locs ht hvm hpx hB hz1 hk1 hS hc9 hv9 hcl9 => ?_) (fun u t H1 locs ht hvm hw hB hz1 hk1 hS => ?_)
  · obtain ⟨x1, rfl⟩ : ∃ z, z = u := ⟨_, rfl⟩
    obtain ⟨hw, hP1, hK1, hD1⟩ := hB
    rw [ht] at hP1
    obtain ⟨hP, hD⟩ := qad (wr := (qa8S jaT jbb jbr jaR jb6 jbb cyI jbQ jb6 jbW jbL jcl jcc jdh jcc cyI jfl jcl cyI jfM jbW cyI jdN jbL cyI jdi jcF cyI jfS)) (w1 := (qaZQ a0 jaK jaR ja1 jcp jbc jbV ja3 jbH jaT jbO jaq jac jbI jbl jbn jba jaa x1 jbz jaR jcB jcC jbo jbp jbk jcF jbf jbq jef jbm jbi jcd)) (wn := (qvY a0 jaK jaR ja1 jcp jbc jbV ja3 jbH jaT jbO jaq jac jbI jbl jbn jba jaa x1 jbz jaR jcB jcC jbo jbp jbk jcF jbf jbq jef jbm jbi jcd jaT jbb jbr jaR jb6 jbb cyI jbQ jb6 jbW jbL jcl jcc jdh jcc cyI jfl jcl cyI jfM jbW cyI jdN jbL cyI jdi jcF cyI jfS)) hP hD [0, 1] [2, 3, 4, 5, 6, 7, 8, 9] [8, 9, 0, 1, 2, 3, 4, 5, 6, 7] hCc rfl (by decide +kernel) (by decide +kernel) (by decide +kernel) rfl hk1 hFc hP1 hD1
    generalize H1 = H at hP hS hc9 ⊢
    exact vx_out (fun x hx9 => (hXs.1 x hx9).elim) hlocks hc9 hv9 hcl9 (fun t2 ht2 hal2 => ⟨(x1, jbz, jfl, jfM), trivial, ⟨hw, by rw [ht2]; exact hP, va_K.moved hal2 hK, hD⟩, hS.F ht2⟩) hS.2.2 (nbq rfl) (nbq rfl)
  obtain ⟨x1, rfl⟩ : ∃ z, z = u := ⟨_, rfl⟩
  obtain ⟨hP1, hK1, hD1⟩ := hB
  rw [ht] at hP1
  obtain ⟨hP, hD⟩ := qad (wr := (qa8S jaT jbb jbr jaR jb6 jbb cyI jbQ jb6 jbW jbL jcl jcc jdh jcc cyI jfl jcl cyI jfM jbW cyI jdN jbL cyI jdi jcF cyI jfS)) (w1 := (qaZQ a0 jaK jaR ja1 jcp jbc jbV ja3 jbH jaT jbO jaq jac jbI jbl jbn jba jaa x1 jbz jaR jcB jcC jbo jbp jbk jcF jbf jbq jef jbm jbi jcd)) (wn := (qvY a0 jaK jaR ja1 jcp jbc jbV ja3 jbH jaT jbO jaq jac jbI jbl jbn jba jaa x1 jbz jaR jcB jcC jbo jbp jbk jcF jbf jbq jef jbm jbi jcd jaT jbb jbr jaR jb6 jbb cyI jbQ jb6 jbW jbL jcl jcc jdh jcc cyI jfl jcl cyI jfM jbW cyI jdN jbL cyI jdi jcF cyI jfS)) hP hD [0, 1] [2, 3, 4, 5, 6, 7, 8, 9] [8, 9, 0, 1, 2, 3, 4, 5, 6, 7] hCc rfl (by decide +kernel) (by decide +kernel) (by decide +kernel) rfl hk1 hFc hP1 hD1
  generalize H1 = H at hP hS ⊢
  refine lv_aload_n hx hb (qaa quZ 3 rfl) rfl (lv_at hl 0 rfl) ?_
  refine lv_iload_n hx hb (qaa quZ 4 rfl) rfl (lv_at hl 2 rfl) ?_
  refine lv_iconst (v := 0) hx hb (qaa quZ 5 rfl) (by decide) ?_
  refine lv_bipush (v := 7) hx hb (qaa quZ 6 rfl) (by decide) ?_
  obtain ⟨hCc, hPc, hDc, hFc⟩ := qac (ws' := (qalG a0 jaK jaR ja1 jcp jbc jbV ja3 jbH jaT jbO jaq jac jbI jbl jbn jba jaa x1 jbz)) hP hD hS hA [0] (by decide +kernel) rfl
  refine vx_callv (vx_runV (As := [.int p2, .int 0, .int 7]) (rest := []) ⟨hx, hb, hml, hown, hts⟩ (qaV l dC dI cyB cyI cyJ cyP a0 H.size (jaK) (.ref jaR) (ja1) (jcp) (jbc) (jbV) (ja3) (jbH) (.ref jaT) (jbO) (jaq) (jac) (jbI) (jbl) (jbn) (jba) (jaa) (.int x1) jbz p2 0 7 hw) (cwV 3 hts gX10_hare_X10_needWithin rfl rfl rfl (by decide +kernel) ⟨nbq rfl, nbq rfl⟩) ⟨qav, va_recv (q := (RX10, TX10, 19)) hK hPc (ci := 10) (q0 := 0) rfl rfl, qbl hPc hK hDc hNw hY hS hFc⟩ rfl rfl hl.1 rfl (lv_room (nbq rfl)) (qaa quZ 7 rfl) ⟨nbq rfl, nbq rfl⟩) hS (fun q _ h => hFc q h) hFc (fun q _ h => hFc q h) (fun en ce q9 u t H1 locs ht hvm hpx hB hz1 hk1 hS hc9 hv9 hcl9 => ?_) (fun u t H1 locs ht hvm hw hB hz1 hk1 hS => ?_)
  · obtain ⟨x2, rfl⟩ : ∃ z, z = u := ⟨_, rfl⟩
    obtain ⟨hw, hP1, hK1, hD1⟩ := hB
    rw [ht] at hP1
    obtain ⟨hP, hD⟩ := qad (wr := (qa8y jaR jcB jcC jbo jbp jbk jcF jbf jbq jef jbm jbi jcd jaT jbb jbr jaR jb6 jbb cyI jbQ jb6 jbW jbL jcl jcc jdh jcc cyI jfl jcl cyI jfM jbW cyI jdN jbL cyI jdi jcF cyI jfS)) (w1 := (qalG a0 jaK jaR ja1 jcp jbc jbV ja3 jbH jaT jbO jaq jac jbI jbl jbn jba jaa x1 x2)) (wn := (qvY a0 jaK jaR ja1 jcp jbc jbV ja3 jbH jaT jbO jaq jac jbI jbl jbn jba jaa x1 x2 jaR jcB jcC jbo jbp jbk jcF jbf jbq jef jbm jbi jcd jaT jbb jbr jaR jb6 jbb cyI jbQ jb6 jbW jbL jcl jcc jdh jcc cyI jfl jcl cyI jfM jbW cyI jdN jbL cyI jdi jcF cyI jfS)) hP hD [0] [1, 2, 3, 4, 5, 6, 7, 8, 9] [9, 0, 1, 2, 3, 4, 5, 6, 7, 8] hCc rfl (by decide +kernel) (by decide +kernel) (by decide +kernel) rfl hk1 hFc hP1 hD1
    generalize H1 = H at hP hS hc9 ⊢
    exact vx_out (fun x hx9 => (hXs.1 x hx9).elim) hlocks hc9 hv9 hcl9 (fun t2 ht2 hal2 => ⟨(x1, x2, jfl, jfM), trivial, ⟨hw, by rw [ht2]; exact hP, va_K.moved hal2 hK, hD⟩, hS.F ht2⟩) hS.2.2 (nbq rfl) (nbq rfl)
  obtain ⟨x2, rfl⟩ : ∃ z, z = u := ⟨_, rfl⟩
  obtain ⟨hP1, hK1, hD1⟩ := hB
  rw [ht] at hP1
  obtain ⟨hP, hD⟩ := qad (wr := (qa8y jaR jcB jcC jbo jbp jbk jcF jbf jbq jef jbm jbi jcd jaT jbb jbr jaR jb6 jbb cyI jbQ jb6 jbW jbL jcl jcc jdh jcc cyI jfl jcl cyI jfM jbW cyI jdN jbL cyI jdi jcF cyI jfS)) (w1 := (qalG a0 jaK jaR ja1 jcp jbc jbV ja3 jbH jaT jbO jaq jac jbI jbl jbn jba jaa x1 x2)) (wn := (qvY a0 jaK jaR ja1 jcp jbc jbV ja3 jbH jaT jbO jaq jac jbI jbl jbn jba jaa x1 x2 jaR jcB jcC jbo jbp jbk jcF jbf jbq jef jbm jbi jcd jaT jbb jbr jaR jb6 jbb cyI jbQ jb6 jbW jbL jcl jcc jdh jcc cyI jfl jcl cyI jfM jbW cyI jdN jbL cyI jdi jcF cyI jfS)) hP hD [0] [1, 2, 3, 4, 5, 6, 7, 8, 9] [9, 0, 1, 2, 3, 4, 5, 6, 7, 8] hCc rfl (by decide +kernel) (by decide +kernel) (by decide +kernel) rfl hk1 hFc hP1 hD1
  generalize H1 = H at hP hS ⊢
  refine lv_iload_n hx hb (qaa quZ 8 rfl) rfl (lv_at hl 2 rfl) ?_
  by_cases c3 : p2.toInt < 0 ∨ 6 < p2.toInt
  · have hw := hw.1 c3
    refine lv_tableOut (tgt := 135) hx hb dX10_hare_14 c3 (by decide) ?_
    refine lv_aload_n hx hb (qaa qg2 11 rfl) rfl (lv_at hl 0 rfl) ?_
    refine va_get (D := (dC, dI)) (ci := 10) (v := .ref jaT) (C := RX10) (T := TX10) (N := 19) hx hb hts qqK hown hK hP 0 rfl rfl 8 (by decide) (hts _ qsk) (fun _ h9 => h9) rfl (qaa qg2 12 rfl) ?_
    refine lv_iload_n hx hb (qaa qg2 13 rfl) rfl (lv_at hl 1 rfl) ?_
    obtain ⟨hCc, hPc, hDc, hFc⟩ := qac (ws' := (qDj jaT jbb jbr jaR jb6 jbb cyI jbQ)) hP hD hS hA [2, 3] (by decide +kernel) rfl
    refine va_calli (va_runV (As := [.int p1]) (rest := []) ⟨hx, hb, hml, hown, hts⟩ (qia l dC dI cyB cyI cyJ cyP jaT jbb H.size (jbr) (.ref jaR) (.ref jb6) jbQ p1 hw) (cwV 1 hts gX10_hare_X1_isCaught rfl rfl rfl (by decide +kernel) ⟨nbq rfl, nbq rfl⟩) ⟨qab, va_recv (q := (RX1, TX1, 4)) hK hPc (ci := 1) (q0 := 0) rfl rfl, qae hPc hK hDc hNw⟩ rfl rfl hl.1 rfl (lv_room (nbq rfl)) (qaa qg2 14 rfl) ⟨nbq rfl, nbq rfl⟩) hS (fun q _ h => hFc q h) hFc (fun r4 u t H1 locs ht hvm hw hB hz1 hk1 hS => ?_)
    obtain ⟨hP1, hK1, hD1⟩ := hB
    rw [ht] at hP1
    obtain ⟨hP, hD⟩ := qad (wr := (qamg a0 jaK jaR ja1 jcp jbc jbV ja3 jbH jaT jbO jaq jac jbI jbl jbn jba jaa x1 x2 jaR jcB jcC jbo jbp jbk jcF jbf jbq jef jbm jbi jcd jb6 jbW jbL jcl jcc jdh jcc cyI jfl jcl cyI jfM jbW cyI jdN jbL cyI jdi jcF cyI jfS)) (w1 := (qDj jaT jbb jbr jaR jb6 jbb cyI jbQ)) (wn := (qvY a0 jaK jaR ja1 jcp jbc jbV ja3 jbH jaT jbO jaq jac jbI jbl jbn jba jaa x1 x2 jaR jcB jcC jbo jbp jbk jcF jbf jbq jef jbm jbi jcd jaT jbb jbr jaR jb6 jbb cyI jbQ jb6 jbW jbL jcl jcc jdh jcc cyI jfl jcl cyI jfM jbW cyI jdN jbL cyI jdi jcF cyI jfS)) hP hD [2, 3] [0, 1, 4, 5, 6, 7, 8, 9] [0, 1, 8, 9, 2, 3, 4, 5, 6, 7] hCc rfl (by decide +kernel) (by decide +kernel) (by decide +kernel) rfl hk1 hFc hP1 hD1
    generalize H1 = H at hP hS ⊢
    refine lv_if_eq (tgt := 150) hx hb (qaa qg2 15 rfl) (by decide) (fun c5 => ?_) (fun c5 => ?_)
    · have hw := hw.1 c5
      refine lv_aload_n hx hb (qaa qtZ 2 rfl) rfl (lv_at hl 0 rfl) ?_
      refine va_get (D := (dC, dI)) (ci := 10) (v := .ref jaT) (C := RX10) (T := TX10) (N := 19) hx hb hts qqK hown hK hP 0 rfl rfl 8 (by decide) (hts _ qsk) (fun _ h9 => h9) rfl (qaa qtZ 3 rfl) ?_
      refine lv_iload_n hx hb (qaa qtZ 4 rfl) rfl (lv_at hl 1 rfl) ?_
      obtain ⟨hCc, hPc, hDc, hFc⟩ := qac (ws' := (qbad jaT jbb jbr jaR jb6 jbb cyI jbQ jaR jcB jcC jbo jbp jbk jcF jbf jbq jef jbm jbi jcd jb6 jbW jbL jcl jcc jdh jcc cyI jfl jcl cyI jfM jbW cyI jdN jbL cyI jdi)) hP hD hS hA [2, 3, 1, 4, 5, 6, 7, 8] (by decide +kernel) rfl
      refine va_calli (va_runV (As := [.int p1]) (rest := []) ⟨hx, hb, hml, hown, hts⟩ (qXQ l dC dI cyB cyI cyJ cyP jaT jbb jaR jb6 jcc jcl jbW jbL H.size (jbr) (jcB) (jcC) (jbo) (jbp) (jbk) (.ref jcF) (jbf) (jbq) (jef) (jbi) (jcd) jbQ jbm jdh jdN jdi jfl jfM p1 hw) (cwV 1 hts gX10_hare_X1_reach rfl rfl rfl (by decide +kernel) ⟨nbq rfl, nbq rfl⟩) ⟨qab, va_recv (q := (RX1, TX1, 4)) hK hPc (ci := 1) (q0 := 0) rfl rfl, qae hPc hK hDc hNw⟩ rfl rfl hl.1 rfl (lv_room (nbq rfl)) (qaa qtZ 5 rfl) ⟨nbq rfl, nbq rfl⟩) hS (fun q _ h => hFc q h) hFc (fun r8 u t H1 locs ht hvm hw hB hz1 hk1 hS => ?_)
      obtain ⟨f6, f7⟩ := u
      obtain ⟨hP1, hK1, hD1⟩ := hB
      rw [ht] at hP1
      obtain ⟨hP, hD⟩ := qad (wr := [(a0, .inr (10, [jaK, .ref jaR, ja1, jcp, jbc, jbV, ja3, jbH, .ref jaT, jbO, jaq, jac, jbI, jbl, jbn, jba, jaa, .int x1, .int x2])), (jcF, .inl (cyI, 6, .inl jfS))]) (w1 := (qbad jaT jbb jbr jaR jb6 jbb cyI jbQ jaR jcB jcC jbo jbp jbk jcF jbf jbq jef jbm jbi jcd jb6 jbW jbL jcl jcc jdh jcc cyI f6 jcl cyI f7 jbW cyI jdN jbL cyI jdi)) (wn := (qvY a0 jaK jaR ja1 jcp jbc jbV ja3 jbH jaT jbO jaq jac jbI jbl jbn jba jaa x1 x2 jaR jcB jcC jbo jbp jbk jcF jbf jbq jef jbm jbi jcd jaT jbb jbr jaR jb6 jbb cyI jbQ jb6 jbW jbL jcl jcc jdh jcc cyI f6 jcl cyI f7 jbW cyI jdN jbL cyI jdi jcF cyI jfS)) hP hD [2, 3, 1, 4, 5, 6, 7, 8] [0, 9] [0, 4, 2, 3, 5, 6, 7, 8, 9, 1] hCc rfl (by decide +kernel) (by decide +kernel) (by decide +kernel) rfl hk1 hFc hP1 hD1
      generalize H1 = H at hP hS ⊢
      exact vx_ret (W.widen (k := 2) (n := 12) (nbq rfl) (nbq rfl) (W.iret (v := r8) hx hb hr (fun t ht hW => ⟨⟨r8, (x1, x2, f6, f7), rfl, hw, by rw [ht]; exact hP, va_K.moved hW.alike hK, hD⟩, hS.F ht⟩) hS.2.2 (qaa qtZ 6 rfl)))
    · have hw := hw.2 c5
      refine lv_iconst (v := 0) hx hb (qaa qtZ 0 rfl) (by decide) ?_
      refine lv_goto (tgt := 158) hx hb (qaa qtZ 1 rfl) (by decide) ?_
      exact vx_ret (W.widen (k := 2) (n := 12) (nbq rfl) (nbq rfl) (W.iret (v := 0) hx hb hr (fun t ht hW => ⟨⟨0, (x1, x2, jfl, jfM), rfl, hw, by rw [ht]; exact hP, va_K.moved hW.alike hK, hD⟩, hS.F ht⟩) hS.2.2 (qaa qtZ 6 rfl)))
  · have hw := hw.2
    rcases qbgH c3 with c3 | c3 | c3 | c3 | c3 | c3 | c3
    · have hw := hw.1 c3
      refine lv_tableIn (tgt := 56) (off := 42) hx hb dX10_hare_14 (by rw [c3]; decide) (by rw [c3]; decide) (by rw [c3]; decide) (by decide) ?_
      refine lv_aload_n hx hb (qaa qh7 0 rfl) rfl (lv_at hl 0 rfl) ?_
      refine va_get (D := (dC, dI)) (ci := 10) (v := .ref jaT) (C := RX10) (T := TX10) (N := 19) hx hb hts qqK hown hK hP 0 rfl rfl 8 (by decide) (hts _ qsk) (fun _ h9 => h9) rfl (qaa qh7 1 rfl) ?_
      refine lv_iload_n hx hb (qaa qh7 2 rfl) rfl (lv_at hl 1 rfl) ?_
      obtain ⟨hCc, hPc, hDc, hFc⟩ := qac (ws' := (qDj jaT jbb jbr jaR jb6 jbb cyI jbQ)) hP hD hS hA [2, 3] (by decide +kernel) rfl
      refine va_calli (va_runV (As := [.int p1]) (rest := []) ⟨hx, hb, hml, hown, hts⟩ (qia l dC dI cyB cyI cyJ cyP jaT jbb H.size (jbr) (.ref jaR) (.ref jb6) jbQ p1 hw) (cwV 1 hts gX10_hare_X1_isCaught rfl rfl rfl (by decide +kernel) ⟨nbq rfl, nbq rfl⟩) ⟨qab, va_recv (q := (RX1, TX1, 4)) hK hPc (ci := 1) (q0 := 0) rfl rfl, qae hPc hK hDc hNw⟩ rfl rfl hl.1 rfl (lv_room (nbq rfl)) (qaa qh7 3 rfl) ⟨nbq rfl, nbq rfl⟩) hS (fun q _ h => hFc q h) hFc (fun r9 u t H1 locs ht hvm hw hB hz1 hk1 hS => ?_)
      obtain ⟨hP1, hK1, hD1⟩ := hB
      rw [ht] at hP1
      obtain ⟨hP, hD⟩ := qad (wr := (qamg a0 jaK jaR ja1 jcp jbc jbV ja3 jbH jaT jbO jaq jac jbI jbl jbn jba jaa x1 x2 jaR jcB jcC jbo jbp jbk jcF jbf jbq jef jbm jbi jcd jb6 jbW jbL jcl jcc jdh jcc cyI jfl jcl cyI jfM jbW cyI jdN jbL cyI jdi jcF cyI jfS)) (w1 := (qDj jaT jbb jbr jaR jb6 jbb cyI jbQ)) (wn := (qvY a0 jaK jaR ja1 jcp jbc jbV ja3 jbH jaT jbO jaq jac jbI jbl jbn jba jaa x1 x2 jaR jcB jcC jbo jbp jbk jcF jbf jbq jef jbm jbi jcd jaT jbb jbr jaR jb6 jbb cyI jbQ jb6 jbW jbL jcl jcc jdh jcc cyI jfl jcl cyI jfM jbW cyI jdN jbL cyI jdi jcF cyI jfS)) hP hD [2, 3] [0, 1, 4, 5, 6, 7, 8, 9] [0, 1, 8, 9, 2, 3, 4, 5, 6, 7] hCc rfl (by decide +kernel) (by decide +kernel) (by decide +kernel) rfl hk1 hFc hP1 hD1
      generalize H1 = H at hP hS ⊢
      refine lv_if_eq (tgt := 71) hx hb (qaa qh7 4 rfl) (by decide) (fun c10 => ?_) (fun c10 => ?_)
      · have hw := hw.1 c10
        refine lv_aload_n hx hb (qaa qh7 7 rfl) rfl (lv_at hl 0 rfl) ?_
        refine va_get (D := (dC, dI)) (ci := 10) (v := .ref jaT) (C := RX10) (T := TX10) (N := 19) hx hb hts qqK hown hK hP 0 rfl rfl 8 (by decide) (hts _ qsk) (fun _ h9 => h9) rfl (qaa qh7 8 rfl) ?_
        refine lv_iload_n hx hb (qaa qh7 9 rfl) rfl (lv_at hl 1 rfl) ?_
        obtain ⟨hCc, hPc, hDc, hFc⟩ := qac (ws' := (qDj jaT jbb jbr jaR jb6 jbb cyI jbQ)) hP hD hS hA [2, 3] (by decide +kernel) rfl
        refine va_calli (va_runV (As := [.int p1]) (rest := []) ⟨hx, hb, hml, hown, hts⟩ (qvw l dC dI cyB cyI cyJ cyP jaT jbb H.size (jbr) (.ref jaR) (.ref jb6) jbQ p1 hw) (cwV 1 hts gX10_hare_X1_sits rfl rfl rfl (by decide +kernel) ⟨nbq rfl, nbq rfl⟩) ⟨qab, va_recv (q := (RX1, TX1, 4)) hK hPc (ci := 1) (q0 := 0) rfl rfl, qae hPc hK hDc hNw⟩ rfl rfl hl.1 rfl (lv_room (nbq rfl)) (qaa qh7 10 rfl) ⟨nbq rfl, nbq rfl⟩) hS (fun q _ h => hFc q h) hFc (fun r11 u t H1 locs ht hvm hw hB hz1 hk1 hS => ?_)
        obtain ⟨hP1, hK1, hD1⟩ := hB
        rw [ht] at hP1
        obtain ⟨hP, hD⟩ := qad (wr := (qamg a0 jaK jaR ja1 jcp jbc jbV ja3 jbH jaT jbO jaq jac jbI jbl jbn jba jaa x1 x2 jaR jcB jcC jbo jbp jbk jcF jbf jbq jef jbm jbi jcd jb6 jbW jbL jcl jcc jdh jcc cyI jfl jcl cyI jfM jbW cyI jdN jbL cyI jdi jcF cyI jfS)) (w1 := (qDj jaT jbb jbr jaR jb6 jbb cyI jbQ)) (wn := (qvY a0 jaK jaR ja1 jcp jbc jbV ja3 jbH jaT jbO jaq jac jbI jbl jbn jba jaa x1 x2 jaR jcB jcC jbo jbp jbk jcF jbf jbq jef jbm jbi jcd jaT jbb jbr jaR jb6 jbb cyI jbQ jb6 jbW jbL jcl jcc jdh jcc cyI jfl jcl cyI jfM jbW cyI jdN jbL cyI jdi jcF cyI jfS)) hP hD [2, 3] [0, 1, 4, 5, 6, 7, 8, 9] [0, 1, 8, 9, 2, 3, 4, 5, 6, 7] hCc rfl (by decide +kernel) (by decide +kernel) (by decide +kernel) rfl hk1 hFc hP1 hD1
        generalize H1 = H at hP hS ⊢
        exact vx_ret (W.widen (k := 2) (n := 12) (nbq rfl) (nbq rfl) (W.iret (v := r11) hx hb hr (fun t ht hW => ⟨⟨r11, (x1, x2, jfl, jfM), rfl, hw, by rw [ht]; exact hP, va_K.moved hW.alike hK, hD⟩, hS.F ht⟩) hS.2.2 (qaa qh7 11 rfl)))
      · have hw := hw.2 c10
        refine lv_iconst (v := (-1)) hx hb (qaa qh7 5 rfl) (by decide) ?_
        refine lv_goto (tgt := 79) hx hb (qaa qh7 6 rfl) (by decide) ?_
        exact vx_ret (W.widen (k := 2) (n := 12) (nbq rfl) (nbq rfl) (W.iret (v := (-1)) hx hb hr (fun t ht hW => ⟨⟨(-1), (x1, x2, jfl, jfM), rfl, hw, by rw [ht]; exact hP, va_K.moved hW.alike hK, hD⟩, hS.F ht⟩) hS.2.2 (qaa qh7 11 rfl)))
    · have hw := hw.2.1 c3
      refine lv_tableIn (tgt := 80) (off := 66) hx hb dX10_hare_14 (by rw [c3]; decide) (by rw [c3]; decide) (by rw [c3]; decide) (by decide) ?_
      refine lv_aload_n hx hb (qaa qh7 12 rfl) rfl (lv_at hl 0 rfl) ?_
      refine va_get (D := (dC, dI)) (ci := 10) (v := .ref jaT) (C := RX10) (T := TX10) (N := 19) hx hb hts qqK hown hK hP 0 rfl rfl 8 (by decide) (hts _ qsk) (fun _ h9 => h9) rfl (qaa qh7 13 rfl) ?_
      refine lv_iload_n hx hb (qaa qh7 14 rfl) rfl (lv_at hl 1 rfl) ?_
      obtain ⟨hCc, hPc, hDc, hFc⟩ := qac (ws' := (qDj jaT jbb jbr jaR jb6 jbb cyI jbQ)) hP hD hS hA [2, 3] (by decide +kernel) rfl
      refine va_calli (va_runV (As := [.int p1]) (rest := []) ⟨hx, hb, hml, hown, hts⟩ (qsC l dC dI cyB cyI cyJ cyP jaT jbb H.size (jbr) (.ref jaR) (.ref jb6) jbQ p1 hw) (cwV 1 hts gX10_hare_X1_strong rfl rfl rfl (by decide +kernel) ⟨nbq rfl, nbq rfl⟩) ⟨qab, va_recv (q := (RX1, TX1, 4)) hK hPc (ci := 1) (q0 := 0) rfl rfl, qae hPc hK hDc hNw⟩ rfl rfl hl.1 rfl (lv_room (nbq rfl)) (qaa qh7 15 rfl) ⟨nbq rfl, nbq rfl⟩) hS (fun q _ h => hFc q h) hFc (fun r12 u t H1 locs ht hvm hw hB hz1 hk1 hS => ?_)
      obtain ⟨hP1, hK1, hD1⟩ := hB
      rw [ht] at hP1
      obtain ⟨hP, hD⟩ := qad (wr := (qamg a0 jaK jaR ja1 jcp jbc jbV ja3 jbH jaT jbO jaq jac jbI jbl jbn jba jaa x1 x2 jaR jcB jcC jbo jbp jbk jcF jbf jbq jef jbm jbi jcd jb6 jbW jbL jcl jcc jdh jcc cyI jfl jcl cyI jfM jbW cyI jdN jbL cyI jdi jcF cyI jfS)) (w1 := (qDj jaT jbb jbr jaR jb6 jbb cyI jbQ)) (wn := (qvY a0 jaK jaR ja1 jcp jbc jbV ja3 jbH jaT jbO jaq jac jbI jbl jbn jba jaa x1 x2 jaR jcB jcC jbo jbp jbk jcF jbf jbq jef jbm jbi jcd jaT jbb jbr jaR jb6 jbb cyI jbQ jb6 jbW jbL jcl jcc jdh jcc cyI jfl jcl cyI jfM jbW cyI jdN jbL cyI jdi jcF cyI jfS)) hP hD [2, 3] [0, 1, 4, 5, 6, 7, 8, 9] [0, 1, 8, 9, 2, 3, 4, 5, 6, 7] hCc rfl (by decide +kernel) (by decide +kernel) (by decide +kernel) rfl hk1 hFc hP1 hD1
      generalize H1 = H at hP hS ⊢
      exact vx_ret (W.widen (k := 2) (n := 12) (nbq rfl) (nbq rfl) (W.iret (v := r12) hx hb hr (fun t ht hW => ⟨⟨r12, (x1, x2, jfl, jfM), rfl, hw, by rw [ht]; exact hP, va_K.moved hW.alike hK, hD⟩, hS.F ht⟩) hS.2.2 (qaa qj7 0 rfl)))
    · have hw := hw.2.2.1 c3
      refine lv_tableIn (tgt := 89) (off := 75) hx hb dX10_hare_14 (by rw [c3]; decide) (by rw [c3]; decide) (by rw [c3]; decide) (by decide) ?_
      refine lv_aload_n hx hb (qaa qj7 1 rfl) rfl (lv_at hl 0 rfl) ?_
      refine va_get (D := (dC, dI)) (ci := 10) (v := .ref jaR) (C := RX10) (T := TX10) (N := 19) hx hb hts qqK hown hK hP 0 rfl rfl 1 (by decide) (hts _ qaCp) (fun _ h9 => h9) rfl (qaa qj7 2 rfl) ?_
      refine va_get (D := (dC, dI)) (ci := 2) (v := .ref jcF) (C := RX2) (T := TX2) (N := 12) hx hb hts qaHf hown hK hP 1 rfl rfl 5 (by decide) (hts _ qaua) (fun _ h9 => h9) rfl (qaa qj7 3 rfl) ?_
      refine lv_iload_n hx hb (qaa qj7 4 rfl) rfl (lv_at hl 1 rfl) ?_
      obtain ⟨hi9, hw⟩ := hw
      refine va_iald hx hb hK hP 9 1 rfl rfl hi9 (qaa qj7 5 rfl) ?_
      refine lv_topi (fun x13 ex13 => ?_)
      have hw := hw x13 ex13
      exact vx_ret (W.widen (k := 2) (n := 12) (nbq rfl) (nbq rfl) (W.iret (v := x13) hx hb hr (fun t ht hW => ⟨⟨x13, (x1, x2, jfl, jfM), rfl, hw, by rw [ht]; exact hP, va_K.moved hW.alike hK, hD⟩, hS.F ht⟩) hS.2.2 (qaa qj7 6 rfl)))
    · have hw := hw.2.2.2.1 c3
      refine lv_tableIn (tgt := 99) (off := 85) hx hb dX10_hare_14 (by rw [c3]; decide) (by rw [c3]; decide) (by rw [c3]; decide) (by decide) ?_
      refine lv_aload_n hx hb (qaa qj7 7 rfl) rfl (lv_at hl 0 rfl) ?_
      refine va_get (D := (dC, dI)) (ci := 10) (v := .ref jaT) (C := RX10) (T := TX10) (N := 19) hx hb hts qqK hown hK hP 0 rfl rfl 8 (by decide) (hts _ qsk) (fun _ h9 => h9) rfl (qaa qj7 8 rfl) ?_
      refine lv_iload_n hx hb (qaa qj7 9 rfl) rfl (lv_at hl 1 rfl) ?_
      obtain ⟨hCc, hPc, hDc, hFc⟩ := qac (ws' := (qDj jaT jbb jbr jaR jb6 jbb cyI jbQ)) hP hD hS hA [2, 3] (by decide +kernel) rfl
      refine va_calli (va_runV (As := [.int p1]) (rest := []) ⟨hx, hb, hml, hown, hts⟩ (q9d l dC dI cyB cyI cyJ cyP jaT jbb H.size (jbr) (.ref jaR) (.ref jb6) jbQ p1 hw) (cwV 1 hts gX10_hare_X1_still rfl rfl rfl (by decide +kernel) ⟨nbq rfl, nbq rfl⟩) ⟨qab, va_recv (q := (RX1, TX1, 4)) hK hPc (ci := 1) (q0 := 0) rfl rfl, qae hPc hK hDc hNw⟩ rfl rfl hl.1 rfl (lv_room (nbq rfl)) (qaa qj7 10 rfl) ⟨nbq rfl, nbq rfl⟩) hS (fun q _ h => hFc q h) hFc (fun r14 u t H1 locs ht hvm hw hB hz1 hk1 hS => ?_)
      obtain ⟨hP1, hK1, hD1⟩ := hB
      rw [ht] at hP1
      obtain ⟨hP, hD⟩ := qad (wr := (qamg a0 jaK jaR ja1 jcp jbc jbV ja3 jbH jaT jbO jaq jac jbI jbl jbn jba jaa x1 x2 jaR jcB jcC jbo jbp jbk jcF jbf jbq jef jbm jbi jcd jb6 jbW jbL jcl jcc jdh jcc cyI jfl jcl cyI jfM jbW cyI jdN jbL cyI jdi jcF cyI jfS)) (w1 := (qDj jaT jbb jbr jaR jb6 jbb cyI jbQ)) (wn := (qvY a0 jaK jaR ja1 jcp jbc jbV ja3 jbH jaT jbO jaq jac jbI jbl jbn jba jaa x1 x2 jaR jcB jcC jbo jbp jbk jcF jbf jbq jef jbm jbi jcd jaT jbb jbr jaR jb6 jbb cyI jbQ jb6 jbW jbL jcl jcc jdh jcc cyI jfl jcl cyI jfM jbW cyI jdN jbL cyI jdi jcF cyI jfS)) hP hD [2, 3] [0, 1, 4, 5, 6, 7, 8, 9] [0, 1, 8, 9, 2, 3, 4, 5, 6, 7] hCc rfl (by decide +kernel) (by decide +kernel) (by decide +kernel) rfl hk1 hFc hP1 hD1
      generalize H1 = H at hP hS ⊢
      exact vx_ret (W.widen (k := 2) (n := 12) (nbq rfl) (nbq rfl) (W.iret (v := r14) hx hb hr (fun t ht hW => ⟨⟨r14, (x1, x2, jfl, jfM), rfl, hw, by rw [ht]; exact hP, va_K.moved hW.alike hK, hD⟩, hS.F ht⟩) hS.2.2 (qaa qj7 11 rfl)))
    · have hw := hw.2.2.2.2.1 c3
      refine lv_tableIn (tgt := 108) (off := 94) hx hb dX10_hare_14 (by rw [c3]; decide) (by rw [c3]; decide) (by rw [c3]; decide) (by decide) ?_
      refine lv_aload_n hx hb (qaa qj7 12 rfl) rfl (lv_at hl 0 rfl) ?_
      refine va_get (D := (dC, dI)) (ci := 10) (v := .ref jaT) (C := RX10) (T := TX10) (N := 19) hx hb hts qqK hown hK hP 0 rfl rfl 8 (by decide) (hts _ qsk) (fun _ h9 => h9) rfl (qaa qj7 13 rfl) ?_
      refine lv_iload_n hx hb (qaa qj7 14 rfl) rfl (lv_at hl 1 rfl) ?_
      obtain ⟨hCc, hPc, hDc, hFc⟩ := qac (ws' := (qDj jaT jbb jbr jaR jb6 jbb cyI jbQ)) hP hD hS hA [2, 3] (by decide +kernel) rfl
      refine va_calli (va_runV (As := [.int p1]) (rest := []) ⟨hx, hb, hml, hown, hts⟩ (qaB4 l dC dI cyB cyI cyJ cyP jaT jbb H.size (jbr) (.ref jaR) (.ref jb6) jbQ p1 hw) (cwV 1 hts gX10_hare_X1_leaps rfl rfl rfl (by decide +kernel) ⟨nbq rfl, nbq rfl⟩) ⟨qab, va_recv (q := (RX1, TX1, 4)) hK hPc (ci := 1) (q0 := 0) rfl rfl, qae hPc hK hDc hNw⟩ rfl rfl hl.1 rfl (lv_room (nbq rfl)) (qaa qj7 15 rfl) ⟨nbq rfl, nbq rfl⟩) hS (fun q _ h => hFc q h) hFc (fun r15 u t H1 locs ht hvm hw hB hz1 hk1 hS => ?_)
      obtain ⟨hP1, hK1, hD1⟩ := hB
      rw [ht] at hP1
      obtain ⟨hP, hD⟩ := qad (wr := (qamg a0 jaK jaR ja1 jcp jbc jbV ja3 jbH jaT jbO jaq jac jbI jbl jbn jba jaa x1 x2 jaR jcB jcC jbo jbp jbk jcF jbf jbq jef jbm jbi jcd jb6 jbW jbL jcl jcc jdh jcc cyI jfl jcl cyI jfM jbW cyI jdN jbL cyI jdi jcF cyI jfS)) (w1 := (qDj jaT jbb jbr jaR jb6 jbb cyI jbQ)) (wn := (qvY a0 jaK jaR ja1 jcp jbc jbV ja3 jbH jaT jbO jaq jac jbI jbl jbn jba jaa x1 x2 jaR jcB jcC jbo jbp jbk jcF jbf jbq jef jbm jbi jcd jaT jbb jbr jaR jb6 jbb cyI jbQ jb6 jbW jbL jcl jcc jdh jcc cyI jfl jcl cyI jfM jbW cyI jdN jbL cyI jdi jcF cyI jfS)) hP hD [2, 3] [0, 1, 4, 5, 6, 7, 8, 9] [0, 1, 8, 9, 2, 3, 4, 5, 6, 7] hCc rfl (by decide +kernel) (by decide +kernel) (by decide +kernel) rfl hk1 hFc hP1 hD1
      generalize H1 = H at hP hS ⊢
      exact vx_ret (W.widen (k := 2) (n := 12) (nbq rfl) (nbq rfl) (W.iret (v := r15) hx hb hr (fun t ht hW => ⟨⟨r15, (x1, x2, jfl, jfM), rfl, hw, by rw [ht]; exact hP, va_K.moved hW.alike hK, hD⟩, hS.F ht⟩) hS.2.2 (qaa qg2 0 rfl)))
    · have hw := hw.2.2.2.2.2.1 c3
      refine lv_tableIn (tgt := 117) (off := 103) hx hb dX10_hare_14 (by rw [c3]; decide) (by rw [c3]; decide) (by rw [c3]; decide) (by decide) ?_
      refine lv_aload_n hx hb (qaa qg2 1 rfl) rfl (lv_at hl 0 rfl) ?_
      refine va_get (D := (dC, dI)) (ci := 10) (v := .ref jaT) (C := RX10) (T := TX10) (N := 19) hx hb hts qqK hown hK hP 0 rfl rfl 8 (by decide) (hts _ qsk) (fun _ h9 => h9) rfl (qaa qg2 2 rfl) ?_
      refine lv_iload_n hx hb (qaa qg2 3 rfl) rfl (lv_at hl 1 rfl) ?_
      obtain ⟨hCc, hPc, hDc, hFc⟩ := qac (ws' := (qaOC jaT jbb jbr jaR jb6 jaR jcB jcC jbo jbp jbk jcF jbf jbq jef jbm jbi jcd jbb cyI jbQ)) hP hD hS hA [2, 1, 3] (by decide +kernel) rfl
      refine va_calli (va_runV (As := [.int p1]) (rest := []) ⟨hx, hb, hml, hown, hts⟩ (qaix l dC dI cyB cyI cyJ cyP jaT jaR jbb H.size (jbr) (.ref jb6) (jcB) (jcC) (jbo) (jbp) (jbk) (.ref jcF) (jbf) (jbq) (jef) (jbi) (jcd) jbm jbQ p1 hw) (cwV 1 hts gX10_hare_X1_owes rfl rfl rfl (by decide +kernel) ⟨nbq rfl, nbq rfl⟩) ⟨qab, va_recv (q := (RX1, TX1, 4)) hK hPc (ci := 1) (q0 := 0) rfl rfl, qae hPc hK hDc hNw⟩ rfl rfl hl.1 rfl (lv_room (nbq rfl)) (qaa qg2 4 rfl) ⟨nbq rfl, nbq rfl⟩) hS (fun q _ h => hFc q h) hFc (fun r16 u t H1 locs ht hvm hw hB hz1 hk1 hS => ?_)
      obtain ⟨hP1, hK1, hD1⟩ := hB
      rw [ht] at hP1
      obtain ⟨hP, hD⟩ := qad (wr := (qa65 a0 jaK jaR ja1 jcp jbc jbV ja3 jbH jaT jbO jaq jac jbI jbl jbn jba jaa x1 x2 jb6 jbW jbL jcl jcc jdh jcc cyI jfl jcl cyI jfM jbW cyI jdN jbL cyI jdi jcF cyI jfS)) (w1 := (qaOC jaT jbb jbr jaR jb6 jaR jcB jcC jbo jbp jbk jcF jbf jbq jef jbm jbi jcd jbb cyI jbQ)) (wn := (qvY a0 jaK jaR ja1 jcp jbc jbV ja3 jbH jaT jbO jaq jac jbI jbl jbn jba jaa x1 x2 jaR jcB jcC jbo jbp jbk jcF jbf jbq jef jbm jbi jcd jaT jbb jbr jaR jb6 jbb cyI jbQ jb6 jbW jbL jcl jcc jdh jcc cyI jfl jcl cyI jfM jbW cyI jdN jbL cyI jdi jcF cyI jfS)) hP hD [2, 1, 3] [0, 4, 5, 6, 7, 8, 9] [0, 8, 7, 9, 1, 2, 3, 4, 5, 6] hCc rfl (by decide +kernel) (by decide +kernel) (by decide +kernel) rfl hk1 hFc hP1 hD1
      generalize H1 = H at hP hS ⊢
      exact vx_ret (W.widen (k := 2) (n := 12) (nbq rfl) (nbq rfl) (W.iret (v := r16) hx hb hr (fun t ht hW => ⟨⟨r16, (x1, x2, jfl, jfM), rfl, hw, by rw [ht]; exact hP, va_K.moved hW.alike hK, hD⟩, hS.F ht⟩) hS.2.2 (qaa qg2 5 rfl)))
    · have hw := hw.2.2.2.2.2.2 c3
      refine lv_tableIn (tgt := 126) (off := 112) hx hb dX10_hare_14 (by rw [c3]; decide) (by rw [c3]; decide) (by rw [c3]; decide) (by decide) ?_
      refine lv_aload_n hx hb (qaa qg2 6 rfl) rfl (lv_at hl 0 rfl) ?_
      refine va_get (D := (dC, dI)) (ci := 10) (v := .ref jaT) (C := RX10) (T := TX10) (N := 19) hx hb hts qqK hown hK hP 0 rfl rfl 8 (by decide) (hts _ qsk) (fun _ h9 => h9) rfl (qaa qg2 7 rfl) ?_
      refine lv_iload_n hx hb (qaa qg2 8 rfl) rfl (lv_at hl 1 rfl) ?_
      obtain ⟨hCc, hPc, hDc, hFc⟩ := qac (ws' := (qaOC jaT jbb jbr jaR jb6 jaR jcB jcC jbo jbp jbk jcF jbf jbq jef jbm jbi jcd jbb cyI jbQ)) hP hD hS hA [2, 1, 3] (by decide +kernel) rfl
      refine va_calli (va_runV (As := [.int p1]) (rest := []) ⟨hx, hb, hml, hown, hts⟩ (qaj6 l dC dI cyB cyI cyJ cyP jaT jaR jbb H.size (jbr) (.ref jb6) (jcB) (jcC) (jbo) (jbp) (jbk) (.ref jcF) (jbf) (jbq) (jef) (jbi) (jcd) jbm jbQ p1 hw) (cwV 1 hts gX10_hare_X1_owed rfl rfl rfl (by decide +kernel) ⟨nbq rfl, nbq rfl⟩) ⟨qab, va_recv (q := (RX1, TX1, 4)) hK hPc (ci := 1) (q0 := 0) rfl rfl, qae hPc hK hDc hNw⟩ rfl rfl hl.1 rfl (lv_room (nbq rfl)) (qaa qg2 9 rfl) ⟨nbq rfl, nbq rfl⟩) hS (fun q _ h => hFc q h) hFc (fun r17 u t H1 locs ht hvm hw hB hz1 hk1 hS => ?_)
      obtain ⟨hP1, hK1, hD1⟩ := hB
      rw [ht] at hP1
      obtain ⟨hP, hD⟩ := qad (wr := (qa65 a0 jaK jaR ja1 jcp jbc jbV ja3 jbH jaT jbO jaq jac jbI jbl jbn jba jaa x1 x2 jb6 jbW jbL jcl jcc jdh jcc cyI jfl jcl cyI jfM jbW cyI jdN jbL cyI jdi jcF cyI jfS)) (w1 := (qaOC jaT jbb jbr jaR jb6 jaR jcB jcC jbo jbp jbk jcF jbf jbq jef jbm jbi jcd jbb cyI jbQ)) (wn := (qvY a0 jaK jaR ja1 jcp jbc jbV ja3 jbH jaT jbO jaq jac jbI jbl jbn jba jaa x1 x2 jaR jcB jcC jbo jbp jbk jcF jbf jbq jef jbm jbi jcd jaT jbb jbr jaR jb6 jbb cyI jbQ jb6 jbW jbL jcl jcc jdh jcc cyI jfl jcl cyI jfM jbW cyI jdN jbL cyI jdi jcF cyI jfS)) hP hD [2, 1, 3] [0, 4, 5, 6, 7, 8, 9] [0, 8, 7, 9, 1, 2, 3, 4, 5, 6] hCc rfl (by decide +kernel) (by decide +kernel) (by decide +kernel) rfl hk1 hFc hP1 hD1
      generalize H1 = H at hP hS ⊢
      exact vx_ret (W.widen (k := 2) (n := 12) (nbq rfl) (nbq rfl) (W.iret (v := r17) hx hb hr (fun t ht hW => ⟨⟨r17, (x1, x2, jfl, jfM), rfl, hw, by rw [ht]; exact hP, va_K.moved hW.alike hK, hD⟩, hS.F ht⟩) hS.2.2 (qaa qg2 10 rfl)))
theorem qaJa : (.classLink RL 13 "java/lang/IllegalArgumentException" : Cond) ∈ wsL_hare := qacF 595 (by decide +kernel)
theorem q7U : (.classLink RL 31 "java/util/NoSuchElementException" : Cond) ∈ wsL_hare := qacF 2643 (by decide +kernel)
theorem qaVM : (.codeWith yL_hare cL_hare 5 (some .int) [(0, 10, 13, 31), (0, 10, 17, 13)] : Cond) ∈ wsL_hare := qacF 2709 (by decide +kernel)
set_option maxHeartbeats 4000000 in
set_option maxRecDepth 100000 in
theorem qa8e (l : Launch) (dC : Nat → ClassId) (dI : Nat → Nat → Nat) (cyB cyI cyJ cyP : ClassId) (a0 a3 jaR jaT jbb jb6 jcc jcl jbW jbL jcF sz : Nat) (jaK ja1 jbc jbV ja3 jbH jbO jaq jac jbI jbl jbn jba jaa jcB jcC jbo jbp jbk jbf jbq jef jbi jcd jbr : Value) (n3 : Nat) (jbm : Int32) (jbQ : NI) (jdh : Int32) (jdN jdi jfS : NI) (jdu jbz : Int32) (jfl jfM : NI) (f3 : Nat → Int64) (p1 p2 : Int32) {Q : Int32 → Int32 → Int32 → NI → NI → (Nat → Int64) → Prop} (hw : qaT5 n3 jbm jbQ jdh jdN jdi jfS jdu jbz jfl jfM f3 p1 p2 Q) : Met l yL_hare wsL_hare ({ frames := 9, cells := 2, slots := 12, locals := 186 }) (va_Pc [.ref a0, .int p1, .int p2, .ref a3] (cPx l (dC, dI) (kT cyB cyI cyJ cyP) (qLY a0 jaK jaR ja1 jb6 jbc jbV ja3 jbH jaT jbO jaq jac jbI jbl jbn jba jaa jdu jbz jaR jcB jcC jbo jbp jbk jcF jbf jbq jef jbm jbi jcd jaT jbb jbr jaR jb6 jbb cyI jbQ jb6 jbW jbL jcl jcc jdh jcc cyI jfl jcl cyI jfM jbW cyI jdN jbL cyI jdi jcF cyI jfS a3 cyJ n3 f3) sz)) (va_Qi (fun (r : Int32) (u : Int32 × Int32 × NI × NI × (Nat → Int64)) => Q r u.1 u.2.1 u.2.2.1 u.2.2.2.1 u.2.2.2.2) (cB (dC, dI) (kT cyB cyI cyJ cyP) (va_A (qLY a0 jaK jaR ja1 jb6 jbc jbV ja3 jbH jaT jbO jaq jac jbI jbl jbn jba jaa jdu jbz jaR jcB jcC jbo jbp jbk jcF jbf jbq jef jbm jbi jcd jaT jbb jbr jaR jb6 jbb cyI jbQ jb6 jbW jbL jcl jcc jdh jcc cyI jfl jcl cyI jfM jbW cyI jdN jbL cyI jdi jcF cyI jfS a3 cyJ n3 f3) sz) (fun u : Int32 × Int32 × NI × NI × (Nat → Int64) => ((qLY a0 jaK jaR ja1 jb6 jbc jbV ja3 jbH jaT jbO jaq jac jbI jbl jbn jba jaa u.1 u.2.1 jaR jcB jcC jbo jbp jbk jcF jbf jbq jef jbm jbi jcd jaT jbb jbr jaR jb6 jbb cyI jbQ jb6 jbW jbL jcl jcc jdh jcc cyI u.2.2.1 jcl cyI u.2.2.2.1 jbW cyI jdN jbL cyI jdi jcF cyI jfS a3 cyJ n3 u.2.2.2.2) : va_W))) (va_A (qLY a0 jaK jaR ja1 jb6 jbc jbV ja3 jbH jaT jbO jaq jac jbI jbl jbn jba jaa jdu jbz jaR jcB jcC jbo jbp jbk jcF jbf jbq jef jbm jbi jcd jaT jbb jbr jaR jb6 jbb cyI jbQ jb6 jbW jbL jcl jcc jdh jcc cyI jfl jcl cyI jfM jbW cyI jdN jbL cyI jdi jcF cyI jfS a3 cyJ n3 f3) sz)) 2 12 (va_A (qLY a0 jaK jaR ja1 jb6 jbc jbV ja3 jbH jaT jbO jaq jac jbI jbl jbn jba jaa jdu jbz jaR jcB jcC jbo jbp jbk jcF jbf jbq jef jbm jbi jcd jaT jbb jbr jaR jb6 jbb cyI jbQ jb6 jbW jbL jcl jcc jdh jcc cyI jfl jcl cyI jfM jbW cyI jdN jbL cyI jdi jcF cyI jfS a3 cyJ n3 f3) sz) := by
  refine va_MetW (cc := cL_hare) (maxL := 5) (ret := (some .int)) (by decide) rfl ?_
  intro p e s m args below meth c s₁ B hml hv
  obtain ⟨rfl, hsz, hP, hK, hD0, hNw, hXl, hXu, hXn, hXt⟩ := hv
  have hx := B.exec
  have hb := B.bytes
  have hr := B.returns
  have hts := atoms_spec (ws := wsL_hare) B.pre
  have hown : s.vm.findClass RL = some m.cls := findClass_of_methodNamed B.named
  have hlocks := B.notSynchronized
  subst hsz
  have hD := hD0.self (sz := s.heap.size)
  generalize hAe : va_A (qLY a0 jaK jaR ja1 jb6 jbc jbV ja3 jbH jaT jbO jaq jac jbI jbl jbn jba jaa jdu jbz jaR jcB jcC jbo jbp jbk jcF jbf jbq jef jbm jbi jcd jaT jbb jbr jaR jb6 jbb cyI jbQ jb6 jbW jbL jcl jcc jdh jcc cyI jfl jcl cyI jfM jbW cyI jdN jbL cyI jdi jcF cyI jfS a3 cyJ n3 f3) s.heap.size = A at hD hXu hXn ⊢
  have hA : ∀ q : Nat, s.heap.size ≤ q → A q := fun q h => by rw [← hAe]; exact Or.inr h
  have hS : va_S A s.heap s.heap [] := va_S.rf
  have hP : va_P (dC, dI) vwCl (qLY a0 jaK jaR ja1 jb6 jbc jbV ja3 jbH jaT jbO jaq jac jbI jbl jbn jba jaa jdu jbz jaR jcB jcC jbo jbp jbk jcF jbf jbq jef jbm jbi jcd jaT jbb jbr jaR jb6 jbb cyI jbQ jb6 jbW jbL jcl jcc jdh jcc cyI jfl jcl cyI jfM jbW cyI jdN jbL cyI jdi jcF cyI jfS a3 cyJ n3 f3) s.heap := hP
  have hl := lv_entry ([.ref a0, .int p1, .int p2, .ref a3]) (n := 5) (nbq rfl)
  rw [lg_entry_eq]
  generalize (lg_sl ([.ref a0, .int p1, .int p2, .ref a3]) ++ List.replicate (5 - (lg_sl ([.ref a0, .int p1, .int p2, .ref a3])).length) Slot.unset).toArray = ls at hl ⊢
  have hl : lv_has ls 5 [(0, .ref a0), (1, .int p1), (2, .int p2), (3, .ref a3)] := hl
  have hY : cfY l s A := ⟨hXl, hXu, hXn, hXt⟩
  have hTb := vx_table (x := yL_hare) B (hts _ qaVM)
  clear hAe
  obtain ⟨H, hH⟩ : ∃ H, H = s.heap := ⟨_, rfl⟩
  rw [← hH] at hP ⊢
  have hS : va_S A s.heap H [] := by rw [hH]; exact va_S.rf
  have hS := hS
  refine lv_aload_n hx hb (qaa qpY 0 rfl) rfl (lv_at hl 3 rfl) ?_
  refine lv_iconst (v := 0) hx hb (qaa qpY 1 rfl) (by decide) ?_
  refine lv_aload_n hx hb (qaa qpY 2 rfl) rfl (lv_at hl 0 rfl) ?_
  refine lv_iload_n hx hb (qaa qpY 3 rfl) rfl (lv_at hl 1 rfl) ?_
  refine lv_iload_n hx hb (qaa qpY 4 rfl) rfl (lv_at hl 2 rfl) ?_
  obtain ⟨hCc, hPc, hDc, hFc⟩ := qac (ws' := (qaXp a0 jaK jaR ja1 jb6 jbc jbV ja3 jbH jaT jbO jaq jac jbI jbl jbn jba jaa jdu jbz jaR jcB jcC jbo jbp jbk jcF jbf jbq jef jbm jbi jcd jaT jbb jbr jaR jb6 jbb cyI jbQ jb6 jbW jbL jcl jcc jdh jcc cyI jfl jcl cyI jfM jbW cyI jdN jbL cyI jdi jcF cyI jfS)) hP hD hS hA [0, 1, 2, 3, 4, 5, 6, 7, 8, 9] (by decide +kernel) rfl
  refine vx_calli (vx_runV (As := [.int p1, .int p2]) (rest := [.int 0, .ref a3]) ⟨hx, hb, hml, hown, hts⟩ (qaXO l dC dI cyB cyI cyJ cyP a0 jaR jaT jbb jb6 jcc jcl jbW jbL jcF H.size (jaK) (ja1) (.ref jb6) (jbc) (jbV) (ja3) (jbH) (jbO) (jaq) (jac) (jbI) (jbl) (jbn) (jba) (jaa) (jcB) (jcC) (jbo) (jbp) (jbk) (jbf) (jbq) (jef) (jbi) (jcd) (jbr) jbm jbQ jdh jdN jdi jfS jdu jbz jfl jfM p1 p2 hw) (cwV 2 hts gL_hare_X10_hare rfl rfl rfl (by decide +kernel) ⟨nbq rfl, nbq rfl⟩) ⟨qav, va_recv (q := (RX10, TX10, 19)) hK hPc (ci := 10) (q0 := 0) rfl rfl, qbl hPc hK hDc hNw hY hS hFc⟩ rfl rfl hl.1 rfl (lv_room (nbq rfl)) (qaa qpY 5 rfl) ⟨nbq rfl, nbq rfl⟩) hS (fun q _ h => hFc q h) hFc (fun q _ h => hFc q h) (fun en ce qx9 u t H1 locs ht hvm hpx hB hz1 hk1 hS hc9 hv9 hcl9 => ?_) (fun r6 u t H1 locs ht hvm hw hB hz1 hk1 hS => ?_)
  · obtain ⟨x1, x2, f4, f5⟩ := u
    obtain ⟨hw, hP1, hK1, hD1⟩ := hB
    rw [ht] at hP1
    obtain ⟨hP, hD⟩ := qad (wr := [(a3, .inl (cyJ, n3, .inr (.inl f3)))]) (w1 := (qaXp a0 jaK jaR ja1 jb6 jbc jbV ja3 jbH jaT jbO jaq jac jbI jbl jbn jba jaa x1 x2 jaR jcB jcC jbo jbp jbk jcF jbf jbq jef jbm jbi jcd jaT jbb jbr jaR jb6 jbb cyI jbQ jb6 jbW jbL jcl jcc jdh jcc cyI f4 jcl cyI f5 jbW cyI jdN jbL cyI jdi jcF cyI jfS)) (wn := (qLY a0 jaK jaR ja1 jb6 jbc jbV ja3 jbH jaT jbO jaq jac jbI jbl jbn jba jaa x1 x2 jaR jcB jcC jbo jbp jbk jcF jbf jbq jef jbm jbi jcd jaT jbb jbr jaR jb6 jbb cyI jbQ jb6 jbW jbL jcl jcc jdh jcc cyI f4 jcl cyI f5 jbW cyI jdN jbL cyI jdi jcF cyI jfS a3 cyJ n3 f3)) hP hD [0, 1, 2, 3, 4, 5, 6, 7, 8, 9] [10] [1, 2, 3, 4, 5, 6, 7, 8, 9, 10, 0] hCc rfl (by decide +kernel) (by decide +kernel) (by decide +kernel) rfl hk1 hFc hP1 hD1
    generalize H1 = H at hP hS hc9 ⊢
    rcases hw with ⟨rfl, hw⟩ | ⟨rfl, hw⟩
    · refine vx_catch (own := RL) (name := "java/util/NoSuchElementException") hown [] ⟨0, 10, 13, 31⟩ [⟨0, 10, 17, 13⟩] (hTb.trans rfl) (fun z hz => nomatch hz) (by decide) (by decide) (hts _ q7U) (va_Nw.use rfl (hY.2.2.2.1.2 _ (List.mem_of_getElem? (i := 1) rfl))) hc9 hv9 hcl9 ?_
      refine lv_astore (lv' := [(4, .ref qx9), (0, .ref a0), (1, .int p1), (2, .int p2), (3, .ref a3)]) hx hb (qaa qpY 9 rfl) hl (by decide) rfl (fun ls hl => ?_)
      refine lv_iconst (v := 1) hx hb (qaa qpY 10 rfl) (by decide) ?_
      exact (W.widen (k := 2) (n := 12) (nbq rfl) (nbq rfl) (W.iret (v := 1) hx hb hr (fun t ht hW => ⟨⟨1, (x1, x2, f4, f5, f3), rfl, hw, by rw [ht]; exact hP, va_K.moved hW.alike hK, hD⟩, hS.F ht⟩) hS.2.2 (qaa qpY 11 rfl)))
    · refine vx_catch (own := RL) (name := "java/lang/IllegalArgumentException") hown [⟨0, 10, 13, 31⟩] ⟨0, 10, 17, 13⟩ [] (hTb.trans rfl) (fun z hz => by rw [List.mem_singleton.mp hz]; exact Or.inr ⟨by decide, _, (hts _ q7U), hY.2.2.2.2.2⟩) (by decide) (by decide) (hts _ qaJa) (va_Nw.use rfl (hY.2.2.2.1.2 _ (List.mem_of_getElem? (i := 0) rfl))) hc9 hv9 hcl9 ?_
      refine lv_astore (lv' := [(4, .ref qx9), (0, .ref a0), (1, .int p1), (2, .int p2), (3, .ref a3)]) hx hb (qaa qpY 12 rfl) hl (by decide) rfl (fun ls hl => ?_)
      refine lv_iconst (v := 2) hx hb (qaa qpY 13 rfl) (by decide) ?_
      exact (W.widen (k := 2) (n := 12) (nbq rfl) (nbq rfl) (W.iret (v := 2) hx hb hr (fun t ht hW => ⟨⟨2, (x1, x2, f4, f5, f3), rfl, hw, by rw [ht]; exact hP, va_K.moved hW.alike hK, hD⟩, hS.F ht⟩) hS.2.2 (qaa qpY 14 rfl)))
  obtain ⟨x1, x2, f4, f5⟩ := u
  obtain ⟨hP1, hK1, hD1⟩ := hB
  rw [ht] at hP1
  obtain ⟨hP, hD⟩ := va_join (wr := [(a3, .inl (cyJ, n3, .inr (.inl f3)))]) (w1 := (qaXp a0 jaK jaR ja1 jb6 jbc jbV ja3 jbH jaT jbO jaq jac jbI jbl jbn jba jaa x1 x2 jaR jcB jcC jbo jbp jbk jcF jbf jbq jef jbm jbi jcd jaT jbb jbr jaR jb6 jbb cyI jbQ jb6 jbW jbL jcl jcc jdh jcc cyI f4 jcl cyI f5 jbW cyI jdN jbL cyI jdi jcF cyI jfS)) hP hD [0, 1, 2, 3, 4, 5, 6, 7, 8, 9] [10] rfl rfl (by decide) (by decide) hk1 hFc hP1 hD1
  have hP : va_P (dC, dI) vwCl (qLY a0 jaK jaR ja1 jb6 jbc jbV ja3 jbH jaT jbO jaq jac jbI jbl jbn jba jaa x1 x2 jaR jcB jcC jbo jbp jbk jcF jbf jbq jef jbm jbi jcd jaT jbb jbr jaR jb6 jbb cyI jbQ jb6 jbW jbL jcl jcc jdh jcc cyI f4 jcl cyI f5 jbW cyI jdN jbL cyI jdi jcF cyI jfS a3 cyJ n3 f3) H1 := hP.sub [1, 2, 3, 4, 5, 6, 7, 8, 9, 10, 0] rfl
  have hD : va_D A (qLY a0 jaK jaR ja1 jb6 jbc jbV ja3 jbH jaT jbO jaq jac jbI jbl jbn jba jaa x1 x2 jaR jcB jcC jbo jbp jbk jcF jbf jbq jef jbm jbi jcd jaT jbb jbr jaR jb6 jbb cyI jbQ jb6 jbW jbL jcl jcc jdh jcc cyI f4 jcl cyI f5 jbW cyI jdN jbL cyI jdi jcF cyI jfS a3 cyJ n3 f3) := hD.sub [1, 2, 3, 4, 5, 6, 7, 8, 9, 10, 0] (by decide) rfl
  generalize H1 = H at hP hS ⊢
  refine lv_i2l (v := r6.toInt64) hx hb (qaa qpY 6 rfl) rfl ?_
  refine lv_topl (fun x7 ex7 => ?_)
  have hw := hw x7 ex7
  obtain ⟨hi9, hw⟩ := hw
  refine va_last hx hb hK hP hD hS 10 2 rfl rfl hi9 (qaa qpY 7 rfl) (fun H locs hP hD hS => ?_)
  obtain ⟨f8, ef8⟩ : ∃ y : Nat → Int64, y = vp_updL f3 (0 : Int32).toNatClampNeg x7 := ⟨_, rfl⟩
  have hw := hw f8 ef8
  have hP : va_P (dC, dI) vwCl (qLY a0 jaK jaR ja1 jb6 jbc jbV ja3 jbH jaT jbO jaq jac jbI jbl jbn jba jaa x1 x2 jaR jcB jcC jbo jbp jbk jcF jbf jbq jef jbm jbi jcd jaT jbb jbr jaR jb6 jbb cyI jbQ jb6 jbW jbL jcl jcc jdh jcc cyI f4 jcl cyI f5 jbW cyI jdN jbL cyI jdi jcF cyI jfS a3 cyJ n3 f8) H := by rw [ef8]; exact hP
  have hD : va_D A (qLY a0 jaK jaR ja1 jb6 jbc jbV ja3 jbH jaT jbO jaq jac jbI jbl jbn jba jaa x1 x2 jaR jcB jcC jbo jbp jbk jcF jbf jbq jef jbm jbi jcd jaT jbb jbr jaR jb6 jbb cyI jbQ jb6 jbW jbL jcl jcc jdh jcc cyI f4 jcl cyI f5 jbW cyI jdN jbL cyI jdi jcF cyI jfS a3 cyJ n3 f8) := by rw [ef8]; exact hD
  refine lv_goto (tgt := 21) hx hb (qaa qpY 8 rfl) (by decide) ?_
  refine lv_iconst (v := 0) hx hb (qaa qpY 15 rfl) (by decide) ?_
  exact (W.widen (k := 2) (n := 12) (nbq rfl) (nbq rfl) (W.iret (v := 0) hx hb hr (fun t ht hW => ⟨⟨0, (x1, x2, f4, f5, f8), rfl, hw, by rw [ht]; exact hP, va_K.moved hW.alike hK, hD⟩, hS.F ht⟩) hS.2.2 (qaa qaT9 0 rfl)))
theorem q6b : ∀ w ∈ u_ws RX2 TX2 12, w ∈ wsX2_formsWithin := uiM qE5 qLp (by decide +kernel)
theorem q4e : (.fieldLink RX2 36 "MarchHares$Down" "forms" "I" : Cond) ∈ wsX2_formsWithin := qE5 720 (by decide +kernel)
set_option maxHeartbeats 4000000 in
set_option maxRecDepth 100000 in
theorem qNM {p : Program} {l : Launch} {e : Env} {s : State} {m : MethodId} {args : Array Value} {below : List Frame} {meth : Method} {c : Code} {A : Nat → Prop} (dC : Nat → ClassId) (dI : Nat → Nat → Nat) (cyB cyI cyJ cyP : ClassId) (a0 jhb jhj : Nat) (jlc jld jkJ jiT jj1 jjT ja4 jaP jkk : Value) (jaN : Int32) (jiR jiP : NI) (Q : Int32 → Prop) (K5 : Int32 → Int32 → Int32 → Int32 → Prop) (hK5 : ∀ (H : Heap) (locs : List Loc) (ls : Array Slot) (l1 l2 l3 l4 : Int32), va_P (dC, dI) vwCl (qnw a0 jhb jhj jlc jld jkJ jiT jj1 jjT jaN ja4 jaP jkk jhb cyI jiR jhj cyI jiP) H → va_D A (qnw a0 jhb jhj jlc jld jkJ jiT jj1 jjT jaN ja4 jaP jkk jhb cyI jiR jhj cyI jiP) → va_S A s.heap H locs → lv_has ls 5 [(0, .ref a0), (1, .int l1), (2, .int l2), (3, .int l3), (4, .int l4)] → K5 l1 l2 l3 l4 → W p l e (headSpec wsX2_formsWithin ({ frames := 2, cells := 0, slots := 0, locals := 54 })).room s m args below meth c H locs 0 0 (MQ below (va_Qi (fun (r : Int32) (_ : Unit) => Q r ) (cB (dC, dI) (kT cyB cyI cyJ cyP) A (fun u : Unit => ((qnw a0 jhb jhj jlc jld jkJ jiT jj1 jjT jaN ja4 jaP jkk jhb cyI jiR jhj cyI jiP) : va_W))) A) args s 0 0 A) (F0 m 5 ls [])) (C0 : cfx p s m args meth c cX2_formsWithin (some .int) wsX2_formsWithin RX2 5 A (dC, dI) (kT cyB cyI cyJ cyP)) : ∀ (H : Heap) (locs : List Loc) (ls : Array Slot) (l1 l2 l3 l4 : Int32), va_P (dC, dI) vwCl (qnw a0 jhb jhj jlc jld jkJ jiT jj1 jjT jaN ja4 jaP jkk jhb cyI jiR jhj cyI jiP) H → va_D A (qnw a0 jhb jhj jlc jld jkJ jiT jj1 jjT jaN ja4 jaP jkk jhb cyI jiR jhj cyI jiP) → va_S A s.heap H locs → lv_has ls 5 [(0, .ref a0), (1, .int l1), (2, .int l2), (3, .int l3), (4, .int l4)] → qDq jaN jiR jiP Q K5 l1 l2 l3 l4 → W p l e (headSpec wsX2_formsWithin ({ frames := 2, cells := 0, slots := 0, locals := 54 })).room s m args below meth c H locs 0 0 (MQ below (va_Qi (fun (r : Int32) (_ : Unit) => Q r ) (cB (dC, dI) (kT cyB cyI cyJ cyP) A (fun u : Unit => ((qnw a0 jhb jhj jlc jld jkJ jiT jj1 jjT jaN ja4 jaP jkk jhb cyI jiR jhj cyI jiP) : va_W))) A) args s 0 0 A) (F0 m 32 ls []) := by
  obtain ⟨hx, hb, hr, hts, hown, hlocks, hml, hA, hK, hNw⟩ := id C0
  intro H locs ls l1 l2 l3 l4 hP hD hS hl hw
  obtain ⟨x5, ex5⟩ : ∃ y : Int32, y = l4 + 1 := ⟨_, rfl⟩
  have hw := hw x5 ex5
  refine lv_iinc (v := x5) (lv' := [(4, .int x5), (0, .ref a0), (1, .int l1), (2, .int l2), (3, .int l3)]) hx hb (qaa qoH 4 rfl) hl (k := 4) rfl (by rw [ex5]; rfl) (by decide) rfl (fun ls hl => ?_)
  refine lv_goto (tgt := 5) hx hb (qaa qoH 5 rfl) (by decide) ?_
  exact hK5 _ _ _ l1 l2 l3 x5 hP hD hS (lv_sub hl [1, 2, 3, 4, 0] rfl) hw
set_option maxHeartbeats 4000000 in
set_option maxRecDepth 100000 in
theorem qaan {p : Program} {l : Launch} {e : Env} {s : State} {m : MethodId} {args : Array Value} {below : List Frame} {meth : Method} {c : Code} {A : Nat → Prop} (dC : Nat → ClassId) (dI : Nat → Nat → Nat) (cyB cyI cyJ cyP : ClassId) (a0 jhb jhj : Nat) (jlc jld jkJ jiT jj1 jjT ja4 jaP jkk : Value) (jaN : Int32) (jiR jiP : NI) (Q : Int32 → Prop) (C0 : cfx p s m args meth c cX2_formsWithin (some .int) wsX2_formsWithin RX2 5 A (dC, dI) (kT cyB cyI cyJ cyP)) : ∀ (n : Nat) (H : Heap) (locs : List Loc) (ls : Array Slot) (l1 l2 l3 l4 : Int32), va_P (dC, dI) vwCl (qnw a0 jhb jhj jlc jld jkJ jiT jj1 jjT jaN ja4 jaP jkk jhb cyI jiR jhj cyI jiP) H → va_D A (qnw a0 jhb jhj jlc jld jkJ jiT jj1 jjT jaN ja4 jaP jkk jhb cyI jiR jhj cyI jiP) → va_S A s.heap H locs → lv_has ls 5 [(0, .ref a0), (1, .int l1), (2, .int l2), (3, .int l3), (4, .int l4)] → qpb jaN jiR jiP Q n l1 l2 l3 l4 → W p l e (headSpec wsX2_formsWithin ({ frames := 2, cells := 0, slots := 0, locals := 54 })).room s m args below meth c H locs 0 0 (MQ below (va_Qi (fun (r : Int32) (_ : Unit) => Q r ) (cB (dC, dI) (kT cyB cyI cyJ cyP) A (fun u : Unit => ((qnw a0 jhb jhj jlc jld jkJ jiT jj1 jjT jaN ja4 jaP jkk jhb cyI jiR jhj cyI jiP) : va_W))) A) args s 0 0 A) (F0 m 5 ls []) := by
  obtain ⟨hx, hb, hr, hts, hown, hlocks, hml, hA, hK, hNw⟩ := id C0
  intro n
  induction n with
  | zero => intro H locs ls l1 l2 l3 l4 hP hD hS hl hw; exact False.elim hw
  | succ n ih =>
    intro H locs ls l1 l2 l3 l4 hP hD hS hl hw
    refine lv_iload hx hb (qaa qcP 4 rfl) (lv_at hl 4 rfl) ?_
    refine lv_aload_n hx hb (qaa qcP 5 rfl) rfl (lv_at hl 0 rfl) ?_
    refine va_get (D := (dC, dI)) (ci := 2) (v := .int jaN) (C := RX2) (T := TX2) (N := 12) hx hb hts q6b hown hK hP 0 rfl rfl 8 (by decide) (hts _ q4e) (fun _ h9 => h9) rfl (qaa qcP 6 rfl) ?_
    refine lv_icmp_ge (tgt := 38) hx hb (qaa qcP 7 rfl) (by decide) (fun c1 => ?_) (fun c1 => ?_)
    · have hw := hw.1 c1
      refine lv_iload_n hx hb (qaa qoH 6 rfl) rfl (lv_at hl 3 rfl) ?_
      exact ((W.iret (v := l3) hx hb hr (fun t ht hW => ⟨⟨l3, (), rfl, hw, by rw [ht]; exact hP, va_K.moved hW.alike hK, hD⟩, hS.F ht⟩) hS.2.2 (qaa qoH 7 rfl)))
    · have hw := hw.2 c1
      refine lv_aload_n hx hb (qaa qcP 8 rfl) rfl (lv_at hl 0 rfl) ?_
      refine lv_iload_n hx hb (qaa qcP 9 rfl) rfl (lv_at hl 1 rfl) ?_
      refine lv_iload hx hb (qaa qcP 10 rfl) (lv_at hl 4 rfl) ?_
      obtain ⟨hCc, hPc, hDc, hFc⟩ := qac (ws' := (qnw a0 jhb jhj jlc jld jkJ jiT jj1 jjT jaN ja4 jaP jkk jhb cyI jiR jhj cyI jiP)) hP hD hS hA [0, 1, 2] (by decide +kernel) rfl
      refine va_calli (va_runV (As := [.int l1, .int l4]) (rest := []) ⟨hx, hb, hml, hown, hts⟩ (qBE l dC dI cyB cyI cyJ cyP a0 jhb jhj H.size (jlc) (jld) (jkJ) (jiT) (jj1) (jjT) (.int jaN) (ja4) (jaP) (jkk) jiR jiP l1 l4 hw) (cwV 2 hts gX2_formsWithin_X2_apart rfl rfl rfl (by decide +kernel) ⟨nbq rfl, nbq rfl⟩) ⟨qab, va_recv (q := (RX2, TX2, 12)) hK hPc (ci := 2) (q0 := 0) rfl rfl, qae hPc hK hDc hNw⟩ rfl rfl hl.1 rfl (lv_room (nbq rfl)) (qaa qcP 11 rfl) ⟨nbq rfl, nbq rfl⟩) hS (fun q _ h => hFc q h) hFc (fun r2 u t H1 locs ht hvm hw hB hz1 hk1 hS => ?_)
      obtain ⟨hP1, hK1, hD1⟩ := hB
      rw [ht] at hP1
      obtain ⟨hP, hD⟩ := qah (wr := []) (w1 := (qnw a0 jhb jhj jlc jld jkJ jiT jj1 jjT jaN ja4 jaP jkk jhb cyI jiR jhj cyI jiP)) (wn := (qnw a0 jhb jhj jlc jld jkJ jiT jj1 jjT jaN ja4 jaP jkk jhb cyI jiR jhj cyI jiP)) hP hD [0, 1, 2] [] hCc rfl (by decide +kernel) (by decide +kernel) rfl hk1 hFc hP1 hD1
      generalize H1 = H at hP hS ⊢
      refine lv_iload_n hx hb (qaa qcP 12 rfl) rfl (lv_at hl 2 rfl) ?_
      refine lv_icmp_gt (tgt := 32) hx hb (qaa qcP 13 rfl) (by decide) (fun c3 => ?_) (fun c3 => ?_)
      · have hw := hw.1 c3
        exact qNM dC dI cyB cyI cyJ cyP a0 jhb jhj jlc jld jkJ jiT jj1 jjT ja4 jaP jkk jaN jiR jiP Q (qpb jaN jiR jiP Q n) ih C0 _ _ _ l1 l2 l3 l4 hP hD hS (lv_sub hl [0, 1, 2, 3, 4] rfl) hw
      · have hw := hw.2 c3
        refine lv_iload_n hx hb (qaa qcP 14 rfl) rfl (lv_at hl 3 rfl) ?_
        refine lv_iconst (v := 1) hx hb (qaa qcP 15 rfl) (by decide) ?_
        refine lv_iload hx hb (qaa qoH 0 rfl) (lv_at hl 4 rfl) ?_
        refine lv_ishl hx hb (qaa qoH 1 rfl) ?_
        refine lv_ior hx hb (qaa qoH 2 rfl) ?_
        refine lv_topi (fun x4 ex4 => ?_)
        have hw := hw x4 ex4
        refine lv_istore_n (lv' := [(3, .int x4), (0, .ref a0), (1, .int l1), (2, .int l2), (4, .int l4)]) hx hb (qaa qoH 3 rfl) rfl hl (by decide) rfl (fun ls hl => ?_)
        exact qNM dC dI cyB cyI cyJ cyP a0 jhb jhj jlc jld jkJ jiT jj1 jjT ja4 jaP jkk jaN jiR jiP Q (qpb jaN jiR jiP Q n) ih C0 _ _ _ l1 l2 x4 l4 hP hD hS (lv_sub hl [1, 2, 3, 0, 4] rfl) hw
set_option maxHeartbeats 4000000 in
set_option maxRecDepth 100000 in
theorem qJM (l : Launch) (dC : Nat → ClassId) (dI : Nat → Nat → Nat) (cyB cyI cyJ cyP : ClassId) (a0 jhb jhj sz : Nat) (jlc jld jkJ jiT jj1 jjT ja4 jaP jkk : Value) (jaN : Int32) (jiR jiP : NI) (p1 p2 : Int32) {Q : Int32 → Prop} (hw : qyE jaN jiR jiP p1 p2 Q) : Met l yX2_formsWithin wsX2_formsWithin ({ frames := 2, cells := 0, slots := 0, locals := 54 }) (va_Pc [.ref a0, .int p1, .int p2] (cPc (dC, dI) (kT cyB cyI cyJ cyP) (qnw a0 jhb jhj jlc jld jkJ jiT jj1 jjT jaN ja4 jaP jkk jhb cyI jiR jhj cyI jiP) sz)) (va_Qi (fun (r : Int32) (_ : Unit) => Q r ) (cB (dC, dI) (kT cyB cyI cyJ cyP) (va_A (qnw a0 jhb jhj jlc jld jkJ jiT jj1 jjT jaN ja4 jaP jkk jhb cyI jiR jhj cyI jiP) sz) (fun u : Unit => ((qnw a0 jhb jhj jlc jld jkJ jiT jj1 jjT jaN ja4 jaP jkk jhb cyI jiR jhj cyI jiP) : va_W))) (va_A (qnw a0 jhb jhj jlc jld jkJ jiT jj1 jjT jaN ja4 jaP jkk jhb cyI jiR jhj cyI jiP) sz)) 0 0 (va_A (qnw a0 jhb jhj jlc jld jkJ jiT jj1 jjT jaN ja4 jaP jkk jhb cyI jiR jhj cyI jiP) sz) := by
  refine Met.ofW (cc := cX2_formsWithin) (maxL := 5) (ret := (some .int)) (by decide) rfl ?_
  intro p e s m args below meth c s₁ B hml hv
  obtain ⟨rfl, hsz, hP, hK, hD0, hNw⟩ := hv
  have hx := B.exec
  have hb := B.bytes
  have hr := B.returns
  have hts := atoms_spec (ws := wsX2_formsWithin) B.pre
  have hown : s.vm.findClass RX2 = some m.cls := findClass_of_methodNamed B.named
  have hlocks := B.notSynchronized
  subst hsz
  have hD := hD0.self (sz := s.heap.size)
  generalize hAe : va_A (qnw a0 jhb jhj jlc jld jkJ jiT jj1 jjT jaN ja4 jaP jkk jhb cyI jiR jhj cyI jiP) s.heap.size = A at hD ⊢
  have hA : ∀ q : Nat, s.heap.size ≤ q → A q := fun q h => by rw [← hAe]; exact Or.inr h
  have hS : va_S A s.heap s.heap [] := va_S.rf
  have hP : va_P (dC, dI) vwCl (qnw a0 jhb jhj jlc jld jkJ jiT jj1 jjT jaN ja4 jaP jkk jhb cyI jiR jhj cyI jiP) s.heap := hP
  have hl := lv_entry ([.ref a0, .int p1, .int p2]) (n := 5) (nbq rfl)
  rw [lg_entry_eq]
  generalize (lg_sl ([.ref a0, .int p1, .int p2]) ++ List.replicate (5 - (lg_sl ([.ref a0, .int p1, .int p2])).length) Slot.unset).toArray = ls at hl ⊢
  have hl : lv_has ls 5 [(0, .ref a0), (1, .int p1), (2, .int p2)] := hl
  have C0 : cfx p s m _ meth c cX2_formsWithin (some .int) wsX2_formsWithin RX2 5 A (dC, dI) (kT cyB cyI cyJ cyP) := ⟨hx, hb, hr, hts, hown, hlocks, hml, hA, hK, hNw⟩
  clear hAe
  obtain ⟨H, hH⟩ : ∃ H, H = s.heap := ⟨_, rfl⟩
  rw [← hH] at hP ⊢
  have hS : va_S A s.heap H [] := by rw [hH]; exact va_S.rf
  have hS := hS
  refine lv_iconst (v := 0) hx hb (qaa qcP 0 rfl) (by decide) ?_
  refine lv_istore_n (lv' := [(3, .int 0), (0, .ref a0), (1, .int p1), (2, .int p2)]) hx hb (qaa qcP 1 rfl) rfl hl (by decide) rfl (fun ls hl => ?_)
  refine lv_iconst (v := 0) hx hb (qaa qcP 2 rfl) (by decide) ?_
  refine lv_istore (lv' := [(4, .int 0), (3, .int 0), (0, .ref a0), (1, .int p1), (2, .int p2)]) hx hb (qaa qcP 3 rfl) hl (by decide) rfl (fun ls hl => ?_)
  obtain ⟨n9, hw⟩ := hw
  exact qaan dC dI cyB cyI cyJ cyP a0 jhb jhj jlc jld jkJ jiT jj1 jjT ja4 jaP jkk jaN jiR jiP Q C0 n9 _ _ _ p1 p2 0 0 hP hD hS (lv_sub hl [2, 3, 4, 1, 0] rfl) hw
theorem q6k : ∀ w ∈ u_ws RX2 TX2 12, w ∈ wsX2_hopsBetween := uiM quC qLp (by decide +kernel)
theorem q4y : (.fieldLink RX2 36 "MarchHares$Down" "forms" "I" : Cond) ∈ wsX2_hopsBetween := quC 720 (by decide +kernel)
theorem qDY : (.initialized RX10 : Cond) ∈ wsX2_hopsBetween := quC 2 (by decide +kernel)
theorem qAg : (.static yX10_holds : Cond) ∈ wsX2_hopsBetween := quC 2052 (by decide +kernel)
set_option maxHeartbeats 4000000 in
set_option maxRecDepth 100000 in
theorem qNm {p : Program} {l : Launch} {e : Env} {s : State} {m : MethodId} {args : Array Value} {below : List Frame} {meth : Method} {c : Code} {A : Nat → Prop} (dC : Nat → ClassId) (dI : Nat → Nat → Nat) (cyB cyI cyJ cyP : ClassId) (a0 jhb jhj : Nat) (jlc jld jkJ jiT jj1 jjT ja4 jaP jkk : Value) (jaN : Int32) (jiR jiP : NI) (Q : Int32 → Prop) (K8 : Int32 → Int32 → Int32 → Int32 → Prop) (K34 : Int32 → Int32 → Int32 → Int32 → Int32 → Int32 → Prop) (hK8 : ∀ (H : Heap) (locs : List Loc) (ls : Array Slot) (l2 l3 l4 l5 : Int32), va_P (dC, dI) vwCl (qnw a0 jhb jhj jlc jld jkJ jiT jj1 jjT jaN ja4 jaP jkk jhb cyI jiR jhj cyI jiP) H → va_D A (qnw a0 jhb jhj jlc jld jkJ jiT jj1 jjT jaN ja4 jaP jkk jhb cyI jiR jhj cyI jiP) → va_S A s.heap H locs → lv_has ls 8 [(0, .ref a0), (2, .int l2), (3, .int l3), (4, .int l4), (5, .int l5)] → K8 l2 l3 l4 l5 → W p l e (headSpec wsX2_hopsBetween ({ frames := 3, cells := 0, slots := 0, locals := 78 })).room s m args below meth c H locs 0 0 (MQ below (va_Qi (fun (r : Int32) (_ : Unit) => Q r ) (cB (dC, dI) (kT cyB cyI cyJ cyP) A (fun u : Unit => ((qnw a0 jhb jhj jlc jld jkJ jiT jj1 jjT jaN ja4 jaP jkk jhb cyI jiR jhj cyI jiP) : va_W))) A) args s 0 0 A) (F0 m 8 ls [])) (hK34 : ∀ (H : Heap) (locs : List Loc) (ls : Array Slot) (l2 l3 l4 l5 l6 l7 : Int32), va_P (dC, dI) vwCl (qnw a0 jhb jhj jlc jld jkJ jiT jj1 jjT jaN ja4 jaP jkk jhb cyI jiR jhj cyI jiP) H → va_D A (qnw a0 jhb jhj jlc jld jkJ jiT jj1 jjT jaN ja4 jaP jkk jhb cyI jiR jhj cyI jiP) → va_S A s.heap H locs → lv_has ls 8 [(0, .ref a0), (2, .int l2), (3, .int l3), (4, .int l4), (5, .int l5), (6, .int l6), (7, .int l7)] → K34 l2 l3 l4 l5 l6 l7 → W p l e (headSpec wsX2_hopsBetween ({ frames := 3, cells := 0, slots := 0, locals := 78 })).room s m args below meth c H locs 0 0 (MQ below (va_Qi (fun (r : Int32) (_ : Unit) => Q r ) (cB (dC, dI) (kT cyB cyI cyJ cyP) A (fun u : Unit => ((qnw a0 jhb jhj jlc jld jkJ jiT jj1 jjT jaN ja4 jaP jkk jhb cyI jiR jhj cyI jiP) : va_W))) A) args s 0 0 A) (F0 m 34 ls [])) (C0 : cfx p s m args meth c cX2_hopsBetween (some .int) wsX2_hopsBetween RX2 8 A (dC, dI) (kT cyB cyI cyJ cyP)) : ∀ (H : Heap) (locs : List Loc) (ls : Array Slot) (l2 l3 l4 l5 l6 l7 : Int32), va_P (dC, dI) vwCl (qnw a0 jhb jhj jlc jld jkJ jiT jj1 jjT jaN ja4 jaP jkk jhb cyI jiR jhj cyI jiP) H → va_D A (qnw a0 jhb jhj jlc jld jkJ jiT jj1 jjT jaN ja4 jaP jkk jhb cyI jiR jhj cyI jiP) → va_S A s.heap H locs → lv_has ls 8 [(0, .ref a0), (2, .int l2), (3, .int l3), (4, .int l4), (5, .int l5), (6, .int l6), (7, .int l7)] → qDz jaN jiR jiP Q K8 K34 l2 l3 l4 l5 l6 l7 → W p l e (headSpec wsX2_hopsBetween ({ frames := 3, cells := 0, slots := 0, locals := 78 })).room s m args below meth c H locs 0 0 (MQ below (va_Qi (fun (r : Int32) (_ : Unit) => Q r ) (cB (dC, dI) (kT cyB cyI cyJ cyP) A (fun u : Unit => ((qnw a0 jhb jhj jlc jld jkJ jiT jj1 jjT jaN ja4 jaP jkk jhb cyI jiR jhj cyI jiP) : va_W))) A) args s 0 0 A) (F0 m 65 ls []) := by
  obtain ⟨hx, hb, hr, hts, hown, hlocks, hml, hA, hK, hNw⟩ := id C0
  intro H locs ls l2 l3 l4 l5 l6 l7 hP hD hS hl hw
  obtain ⟨x11, ex11⟩ : ∃ y : Int32, y = l7 + 1 := ⟨_, rfl⟩
  have hw := hw x11 ex11
  refine lv_iinc (v := x11) (lv' := [(7, .int x11), (0, .ref a0), (2, .int l2), (3, .int l3), (4, .int l4), (5, .int l5), (6, .int l6)]) hx hb (qaa qjX 2 rfl) hl (k := 6) rfl (by rw [ex11]; rfl) (by decide) rfl (fun ls hl => ?_)
  refine lv_goto (tgt := 34) hx hb (qaa qjX 3 rfl) (by decide) ?_
  exact hK34 _ _ _ l2 l3 l4 l5 l6 x11 hP hD hS (lv_sub hl [1, 2, 3, 4, 5, 6, 0] rfl) hw
set_option maxHeartbeats 4000000 in
set_option maxRecDepth 100000 in
theorem q7c {p : Program} {l : Launch} {e : Env} {s : State} {m : MethodId} {args : Array Value} {below : List Frame} {meth : Method} {c : Code} {A : Nat → Prop} (dC : Nat → ClassId) (dI : Nat → Nat → Nat) (cyB cyI cyJ cyP : ClassId) (a0 jhb jhj : Nat) (jlc jld jkJ jiT jj1 jjT ja4 jaP jkk : Value) (jaN : Int32) (jiR jiP : NI) (Q : Int32 → Prop) (K8 : Int32 → Int32 → Int32 → Int32 → Prop) (hK8 : ∀ (H : Heap) (locs : List Loc) (ls : Array Slot) (l2 l3 l4 l5 : Int32), va_P (dC, dI) vwCl (qnw a0 jhb jhj jlc jld jkJ jiT jj1 jjT jaN ja4 jaP jkk jhb cyI jiR jhj cyI jiP) H → va_D A (qnw a0 jhb jhj jlc jld jkJ jiT jj1 jjT jaN ja4 jaP jkk jhb cyI jiR jhj cyI jiP) → va_S A s.heap H locs → lv_has ls 8 [(0, .ref a0), (2, .int l2), (3, .int l3), (4, .int l4), (5, .int l5)] → K8 l2 l3 l4 l5 → W p l e (headSpec wsX2_hopsBetween ({ frames := 3, cells := 0, slots := 0, locals := 78 })).room s m args below meth c H locs 0 0 (MQ below (va_Qi (fun (r : Int32) (_ : Unit) => Q r ) (cB (dC, dI) (kT cyB cyI cyJ cyP) A (fun u : Unit => ((qnw a0 jhb jhj jlc jld jkJ jiT jj1 jjT jaN ja4 jaP jkk jhb cyI jiR jhj cyI jiP) : va_W))) A) args s 0 0 A) (F0 m 8 ls [])) (C0 : cfx p s m args meth c cX2_hopsBetween (some .int) wsX2_hopsBetween RX2 8 A (dC, dI) (kT cyB cyI cyJ cyP)) : ∀ (n : Nat) (H : Heap) (locs : List Loc) (ls : Array Slot) (l2 l3 l4 l5 l6 l7 : Int32), va_P (dC, dI) vwCl (qnw a0 jhb jhj jlc jld jkJ jiT jj1 jjT jaN ja4 jaP jkk jhb cyI jiR jhj cyI jiP) H → va_D A (qnw a0 jhb jhj jlc jld jkJ jiT jj1 jjT jaN ja4 jaP jkk jhb cyI jiR jhj cyI jiP) → va_S A s.heap H locs → lv_has ls 8 [(0, .ref a0), (2, .int l2), (3, .int l3), (4, .int l4), (5, .int l5), (6, .int l6), (7, .int l7)] → qov jaN jiR jiP Q K8 n l2 l3 l4 l5 l6 l7 → W p l e (headSpec wsX2_hopsBetween ({ frames := 3, cells := 0, slots := 0, locals := 78 })).room s m args below meth c H locs 0 0 (MQ below (va_Qi (fun (r : Int32) (_ : Unit) => Q r ) (cB (dC, dI) (kT cyB cyI cyJ cyP) A (fun u : Unit => ((qnw a0 jhb jhj jlc jld jkJ jiT jj1 jjT jaN ja4 jaP jkk jhb cyI jiR jhj cyI jiP) : va_W))) A) args s 0 0 A) (F0 m 34 ls []) := by
  obtain ⟨hx, hb, hr, hts, hown, hlocks, hml, hA, hK, hNw⟩ := id C0
  intro n
  induction n with
  | zero => intro H locs ls l2 l3 l4 l5 l6 l7 hP hD hS hl hw; exact False.elim hw
  | succ n ih =>
    intro H locs ls l2 l3 l4 l5 l6 l7 hP hD hS hl hw
    refine lv_iload hx hb (qaa qci 3 rfl) (lv_at hl 6 rfl) ?_
    refine lv_aload_n hx hb (qaa qci 4 rfl) rfl (lv_at hl 0 rfl) ?_
    refine va_get (D := (dC, dI)) (ci := 2) (v := .int jaN) (C := RX2) (T := TX2) (N := 12) hx hb hts q6k hown hK hP 0 rfl rfl 8 (by decide) (hts _ q4y) (fun _ h9 => h9) rfl (qaa qci 5 rfl) ?_
    refine lv_icmp_ge (tgt := 71) hx hb (qaa qci 6 rfl) (by decide) (fun c5 => ?_) (fun c5 => ?_)
    · have hw := hw.1 c5
      refine lv_iload hx hb (qaa qjX 4 rfl) (lv_at hl 5 rfl) ?_
      refine lv_istore (lv' := [(4, .int l6), (0, .ref a0), (2, .int l2), (3, .int l3), (5, .int l5), (6, .int l6), (7, .int l7)]) hx hb (qaa qjX 5 rfl) hl (by decide) rfl (fun ls hl => ?_)
      obtain ⟨x6, ex6⟩ : ∃ y : Int32, y = l5 + 1 := ⟨_, rfl⟩
      have hw := hw x6 ex6
      refine lv_iinc (v := x6) (lv' := [(5, .int x6), (4, .int l6), (0, .ref a0), (2, .int l2), (3, .int l3), (6, .int l6), (7, .int l7)]) hx hb (qaa qjX 6 rfl) hl (k := 4) rfl (by rw [ex6]; rfl) (by decide) rfl (fun ls hl => ?_)
      refine lv_goto (tgt := 8) hx hb (qaa qjX 7 rfl) (by decide) ?_
      exact hK8 _ _ _ l2 l3 l6 x6 hP hD hS (lv_sub hl [2, 3, 4, 1, 0] rfl) hw
    · have hw := hw.2 c5
      refine lv_iload hx hb (qaa qci 7 rfl) (lv_at hl 3 rfl) ?_
      refine lv_iload hx hb (qaa qci 8 rfl) (lv_at hl 6 rfl) ?_
      obtain ⟨hCc, hPc, hDc, hFc⟩ := qac (ws' := []) hP hD hS hA [] (by decide +kernel) rfl
      refine va_calli (va_runSN (As := [.int l4, .int l7]) (rest := []) ⟨hx, hb, hml, hown, hts⟩ (qnt l dC dI cyB cyI cyJ cyP H.size l4 l7 hw) ⟨(va_cnB 2 hts gX2_hopsBetween_X10_holds_n114 rfl rfl rfl (qbbP hNw) (hts _ qDY) (by decide +kernel) ⟨nbq rfl, nbq rfl⟩), (hts _ qAg), trivial⟩ ⟨qab, qae hPc hK hDc hNw⟩ rfl rfl hl.1 rfl (lv_room (nbq rfl)) (qaa qci 9 rfl) ⟨nbq rfl, nbq rfl⟩) hS (fun q _ h => hFc q h) hFc (fun r7 u t H1 locs ht hvm hw hB hz1 hk1 hS => ?_)
      obtain ⟨hP1, hK1, hD1⟩ := hB
      rw [ht] at hP1
      obtain ⟨hP, hD⟩ := qah (wr := (qnw a0 jhb jhj jlc jld jkJ jiT jj1 jjT jaN ja4 jaP jkk jhb cyI jiR jhj cyI jiP)) (w1 := []) (wn := (qnw a0 jhb jhj jlc jld jkJ jiT jj1 jjT jaN ja4 jaP jkk jhb cyI jiR jhj cyI jiP)) hP hD [] [0, 1, 2] hCc rfl (by decide +kernel) (by decide +kernel) rfl hk1 hFc hP1 hD1
      generalize H1 = H at hP hS ⊢
      refine lv_if_eq (tgt := 65) hx hb (qaa qci 10 rfl) (by decide) (fun c8 => ?_) (fun c8 => ?_)
      · have hw := hw.1 c8
        exact qNm dC dI cyB cyI cyJ cyP a0 jhb jhj jlc jld jkJ jiT jj1 jjT ja4 jaP jkk jaN jiR jiP Q K8 (qov jaN jiR jiP Q K8 n) hK8 ih C0 _ _ _ l2 l3 l4 l5 l6 l7 hP hD hS (lv_sub hl [0, 1, 2, 3, 4, 5, 6] rfl) hw
      · have hw := hw.2 c8
        refine lv_iload hx hb (qaa qci 11 rfl) (lv_at hl 5 rfl) ?_
        refine lv_aload_n hx hb (qaa qci 12 rfl) rfl (lv_at hl 0 rfl) ?_
        refine lv_iload hx hb (qaa qci 13 rfl) (lv_at hl 6 rfl) ?_
        refine lv_iload_n hx hb (qaa qci 14 rfl) rfl (lv_at hl 2 rfl) ?_
        obtain ⟨hCc, hPc, hDc, hFc⟩ := qac (ws' := (qnw a0 jhb jhj jlc jld jkJ jiT jj1 jjT jaN ja4 jaP jkk jhb cyI jiR jhj cyI jiP)) hP hD hS hA [0, 1, 2] (by decide +kernel) rfl
        refine va_calli (va_runV (As := [.int l7, .int l3]) (rest := [.int l6]) ⟨hx, hb, hml, hown, hts⟩ (qJM l dC dI cyB cyI cyJ cyP a0 jhb jhj H.size (jlc) (jld) (jkJ) (jiT) (jj1) (jjT) (ja4) (jaP) (jkk) jaN jiR jiP l7 l3 hw) (cwV 2 hts gX2_hopsBetween_X2_formsWithin rfl rfl rfl (by decide +kernel) ⟨nbq rfl, nbq rfl⟩) ⟨qab, va_recv (q := (RX2, TX2, 12)) hK hPc (ci := 2) (q0 := 0) rfl rfl, qae hPc hK hDc hNw⟩ rfl rfl hl.1 rfl (lv_room (nbq rfl)) (qaa qci 15 rfl) ⟨nbq rfl, nbq rfl⟩) hS (fun q _ h => hFc q h) hFc (fun r9 u t H1 locs ht hvm hw hB hz1 hk1 hS => ?_)
        obtain ⟨hP1, hK1, hD1⟩ := hB
        rw [ht] at hP1
        obtain ⟨hP, hD⟩ := qah (wr := []) (w1 := (qnw a0 jhb jhj jlc jld jkJ jiT jj1 jjT jaN ja4 jaP jkk jhb cyI jiR jhj cyI jiP)) (wn := (qnw a0 jhb jhj jlc jld jkJ jiT jj1 jjT jaN ja4 jaP jkk jhb cyI jiR jhj cyI jiP)) hP hD [0, 1, 2] [] hCc rfl (by decide +kernel) (by decide +kernel) rfl hk1 hFc hP1 hD1
        generalize H1 = H at hP hS ⊢
        refine lv_ior hx hb (qaa qjX 0 rfl) ?_
        refine lv_topi (fun x10 ex10 => ?_)
        have hw := hw x10 ex10
        refine lv_istore (lv' := [(6, .int x10), (0, .ref a0), (2, .int l2), (3, .int l3), (4, .int l4), (5, .int l5), (7, .int l7)]) hx hb (qaa qjX 1 rfl) hl (by decide) rfl (fun ls hl => ?_)
        exact qNm dC dI cyB cyI cyJ cyP a0 jhb jhj jlc jld jkJ jiT jj1 jjT ja4 jaP jkk jaN jiR jiP Q K8 (qov jaN jiR jiP Q K8 n) hK8 ih C0 _ _ _ l2 l3 l4 l5 x10 l7 hP hD hS (lv_sub hl [1, 2, 3, 4, 5, 0, 6] rfl) hw
set_option maxHeartbeats 4000000 in
set_option maxRecDepth 100000 in
theorem qabV {p : Program} {l : Launch} {e : Env} {s : State} {m : MethodId} {args : Array Value} {below : List Frame} {meth : Method} {c : Code} {A : Nat → Prop} (dC : Nat → ClassId) (dI : Nat → Nat → Nat) (cyB cyI cyJ cyP : ClassId) (a0 jhb jhj : Nat) (jlc jld jkJ jiT jj1 jjT ja4 jaP jkk : Value) (jaN : Int32) (jiR jiP : NI) (Q : Int32 → Prop) (C0 : cfx p s m args meth c cX2_hopsBetween (some .int) wsX2_hopsBetween RX2 8 A (dC, dI) (kT cyB cyI cyJ cyP)) : ∀ (n : Nat) (H : Heap) (locs : List Loc) (ls : Array Slot) (l2 l3 l4 l5 : Int32), va_P (dC, dI) vwCl (qnw a0 jhb jhj jlc jld jkJ jiT jj1 jjT jaN ja4 jaP jkk jhb cyI jiR jhj cyI jiP) H → va_D A (qnw a0 jhb jhj jlc jld jkJ jiT jj1 jjT jaN ja4 jaP jkk jhb cyI jiR jhj cyI jiP) → va_S A s.heap H locs → lv_has ls 8 [(0, .ref a0), (2, .int l2), (3, .int l3), (4, .int l4), (5, .int l5)] → qvQ jaN jiR jiP Q n l2 l3 l4 l5 → W p l e (headSpec wsX2_hopsBetween ({ frames := 3, cells := 0, slots := 0, locals := 78 })).room s m args below meth c H locs 0 0 (MQ below (va_Qi (fun (r : Int32) (_ : Unit) => Q r ) (cB (dC, dI) (kT cyB cyI cyJ cyP) A (fun u : Unit => ((qnw a0 jhb jhj jlc jld jkJ jiT jj1 jjT jaN ja4 jaP jkk jhb cyI jiR jhj cyI jiP) : va_W))) A) args s 0 0 A) (F0 m 8 ls []) := by
  obtain ⟨hx, hb, hr, hts, hown, hlocks, hml, hA, hK, hNw⟩ := id C0
  intro n
  induction n with
  | zero => intro H locs ls l2 l3 l4 l5 hP hD hS hl hw; exact False.elim hw
  | succ n ih =>
    intro H locs ls l2 l3 l4 l5 hP hD hS hl hw
    refine lv_iload hx hb (qaa qcW 6 rfl) (lv_at hl 4 rfl) ?_
    refine lv_bipush (v := 8) hx hb (qaa qcW 7 rfl) (by decide) ?_
    refine lv_icmp_ge (tgt := 81) hx hb (qaa qcW 8 rfl) (by decide) (fun c2 => ?_) (fun c2 => ?_)
    · have hw := hw.1 c2
      refine lv_iconst (v := (-1)) hx hb (qaa qjX 8 rfl) (by decide) ?_
      exact ((W.iret (v := (-1)) hx hb hr (fun t ht hW => ⟨⟨(-1), (), rfl, hw, by rw [ht]; exact hP, va_K.moved hW.alike hK, hD⟩, hS.F ht⟩) hS.2.2 (qaa qjX 9 rfl)))
    · have hw := hw.2 c2
      refine lv_iload hx hb (qaa qcW 9 rfl) (lv_at hl 3 rfl) ?_
      refine lv_iload_n hx hb (qaa qcW 10 rfl) rfl (lv_at hl 1 rfl) ?_
      obtain ⟨hCc, hPc, hDc, hFc⟩ := qac (ws' := []) hP hD hS hA [] (by decide +kernel) rfl
      refine va_calli (va_runSN (As := [.int l4, .int l2]) (rest := []) ⟨hx, hb, hml, hown, hts⟩ (qnt l dC dI cyB cyI cyJ cyP H.size l4 l2 hw) ⟨(va_cnB 2 hts gX2_hopsBetween_X10_holds_n114 rfl rfl rfl (qbbP hNw) (hts _ qDY) (by decide +kernel) ⟨nbq rfl, nbq rfl⟩), (hts _ qAg), trivial⟩ ⟨qab, qae hPc hK hDc hNw⟩ rfl rfl hl.1 rfl (lv_room (nbq rfl)) (qaa qcW 11 rfl) ⟨nbq rfl, nbq rfl⟩) hS (fun q _ h => hFc q h) hFc (fun r3 u t H1 locs ht hvm hw hB hz1 hk1 hS => ?_)
      obtain ⟨hP1, hK1, hD1⟩ := hB
      rw [ht] at hP1
      obtain ⟨hP, hD⟩ := qah (wr := (qnw a0 jhb jhj jlc jld jkJ jiT jj1 jjT jaN ja4 jaP jkk jhb cyI jiR jhj cyI jiP)) (w1 := []) (wn := (qnw a0 jhb jhj jlc jld jkJ jiT jj1 jjT jaN ja4 jaP jkk jhb cyI jiR jhj cyI jiP)) hP hD [] [0, 1, 2] hCc rfl (by decide +kernel) (by decide +kernel) rfl hk1 hFc hP1 hD1
      generalize H1 = H at hP hS ⊢
      refine lv_if_eq (tgt := 27) hx hb (qaa qcW 12 rfl) (by decide) (fun c4 => ?_) (fun c4 => ?_)
      · have hw := hw.1 c4
        refine lv_iload hx hb (qaa qcW 15 rfl) (lv_at hl 3 rfl) ?_
        refine lv_istore (lv' := [(6, .int l4), (0, .ref a0), (2, .int l2), (3, .int l3), (4, .int l4), (5, .int l5)]) hx hb (qaa qci 0 rfl) hl (by decide) rfl (fun ls hl => ?_)
        refine lv_iconst (v := 0) hx hb (qaa qci 1 rfl) (by decide) ?_
        refine lv_istore (lv' := [(7, .int 0), (6, .int l4), (0, .ref a0), (2, .int l2), (3, .int l3), (4, .int l4), (5, .int l5)]) hx hb (qaa qci 2 rfl) hl (by decide) rfl (fun ls hl => ?_)
        obtain ⟨n9, hw⟩ := hw
        exact q7c dC dI cyB cyI cyJ cyP a0 jhb jhj jlc jld jkJ jiT jj1 jjT ja4 jaP jkk jaN jiR jiP Q (qvQ jaN jiR jiP Q n) ih C0 n9 _ _ _ l2 l3 l4 l5 l4 0 hP hD hS (lv_sub hl [2, 3, 4, 5, 6, 1, 0] rfl) hw
      · have hw := hw.2 c4
        refine lv_iload hx hb (qaa qcW 13 rfl) (lv_at hl 4 rfl) ?_
        exact ((W.iret (v := l5) hx hb hr (fun t ht hW => ⟨⟨l5, (), rfl, hw, by rw [ht]; exact hP, va_K.moved hW.alike hK, hD⟩, hS.F ht⟩) hS.2.2 (qaa qcW 14 rfl)))
set_option maxHeartbeats 4000000 in
set_option maxRecDepth 100000 in
theorem qanC (l : Launch) (dC : Nat → ClassId) (dI : Nat → Nat → Nat) (cyB cyI cyJ cyP : ClassId) (a0 jhb jhj sz : Nat) (jlc jld jkJ jiT jj1 jjT ja4 jaP jkk : Value) (jaN : Int32) (jiR jiP : NI) (p1 p2 p3 : Int32) {Q : Int32 → Prop} (hw : qJ0 jaN jiR jiP p1 p2 p3 Q) : Met l yX2_hopsBetween wsX2_hopsBetween ({ frames := 3, cells := 0, slots := 0, locals := 78 }) (va_Pc [.ref a0, .int p1, .int p2, .int p3] (cPc (dC, dI) (kT cyB cyI cyJ cyP) (qnw a0 jhb jhj jlc jld jkJ jiT jj1 jjT jaN ja4 jaP jkk jhb cyI jiR jhj cyI jiP) sz)) (va_Qi (fun (r : Int32) (_ : Unit) => Q r ) (cB (dC, dI) (kT cyB cyI cyJ cyP) (va_A (qnw a0 jhb jhj jlc jld jkJ jiT jj1 jjT jaN ja4 jaP jkk jhb cyI jiR jhj cyI jiP) sz) (fun u : Unit => ((qnw a0 jhb jhj jlc jld jkJ jiT jj1 jjT jaN ja4 jaP jkk jhb cyI jiR jhj cyI jiP) : va_W))) (va_A (qnw a0 jhb jhj jlc jld jkJ jiT jj1 jjT jaN ja4 jaP jkk jhb cyI jiR jhj cyI jiP) sz)) 0 0 (va_A (qnw a0 jhb jhj jlc jld jkJ jiT jj1 jjT jaN ja4 jaP jkk jhb cyI jiR jhj cyI jiP) sz) := by
  refine Met.ofW (cc := cX2_hopsBetween) (maxL := 8) (ret := (some .int)) (by decide) rfl ?_
  intro p e s m args below meth c s₁ B hml hv
  obtain ⟨rfl, hsz, hP, hK, hD0, hNw⟩ := hv
  have hx := B.exec
  have hb := B.bytes
  have hr := B.returns
  have hts := atoms_spec (ws := wsX2_hopsBetween) B.pre
  have hown : s.vm.findClass RX2 = some m.cls := findClass_of_methodNamed B.named
  have hlocks := B.notSynchronized
  subst hsz
  have hD := hD0.self (sz := s.heap.size)
  generalize hAe : va_A (qnw a0 jhb jhj jlc jld jkJ jiT jj1 jjT jaN ja4 jaP jkk jhb cyI jiR jhj cyI jiP) s.heap.size = A at hD ⊢
  have hA : ∀ q : Nat, s.heap.size ≤ q → A q := fun q h => by rw [← hAe]; exact Or.inr h
  have hS : va_S A s.heap s.heap [] := va_S.rf
  have hP : va_P (dC, dI) vwCl (qnw a0 jhb jhj jlc jld jkJ jiT jj1 jjT jaN ja4 jaP jkk jhb cyI jiR jhj cyI jiP) s.heap := hP
  have hl := lv_entry ([.ref a0, .int p1, .int p2, .int p3]) (n := 8) (nbq rfl)
  rw [lg_entry_eq]
  generalize (lg_sl ([.ref a0, .int p1, .int p2, .int p3]) ++ List.replicate (8 - (lg_sl ([.ref a0, .int p1, .int p2, .int p3])).length) Slot.unset).toArray = ls at hl ⊢
  have hl : lv_has ls 8 [(0, .ref a0), (1, .int p1), (2, .int p2), (3, .int p3)] := hl
  have C0 : cfx p s m _ meth c cX2_hopsBetween (some .int) wsX2_hopsBetween RX2 8 A (dC, dI) (kT cyB cyI cyJ cyP) := ⟨hx, hb, hr, hts, hown, hlocks, hml, hA, hK, hNw⟩
  clear hAe
  obtain ⟨H, hH⟩ : ∃ H, H = s.heap := ⟨_, rfl⟩
  rw [← hH] at hP ⊢
  have hS : va_S A s.heap H [] := by rw [hH]; exact va_S.rf
  have hS := hS
  refine lv_iconst (v := 1) hx hb (qaa qcW 0 rfl) (by decide) ?_
  refine lv_iload_n hx hb (qaa qcW 1 rfl) rfl (lv_at hl 1 rfl) ?_
  refine lv_ishl hx hb (qaa qcW 2 rfl) ?_
  refine lv_topi (fun x1 ex1 => ?_)
  have hw := hw x1 ex1
  refine lv_istore (lv' := [(4, .int x1), (0, .ref a0), (1, .int p1), (2, .int p2), (3, .int p3)]) hx hb (qaa qcW 3 rfl) hl (by decide) rfl (fun ls hl => ?_)
  refine lv_iconst (v := 0) hx hb (qaa qcW 4 rfl) (by decide) ?_
  refine lv_istore (lv' := [(5, .int 0), (4, .int x1), (0, .ref a0), (1, .int p1), (2, .int p2), (3, .int p3)]) hx hb (qaa qcW 5 rfl) hl (by decide) rfl (fun ls hl => ?_)
  obtain ⟨n9, hw⟩ := hw
  exact qabV dC dI cyB cyI cyJ cyP a0 jhb jhj jlc jld jkJ jiT jj1 jjT ja4 jaP jkk jaN jiR jiP Q C0 n9 _ _ _ p2 p3 x1 0 hP hD hS (lv_sub hl [2, 4, 5, 1, 0] rfl) hw
theorem qIW : ∀ w ∈ u_ws RX10 TX10 19, w ∈ wsX10_hops := uiM qth qyN (by decide +kernel)
theorem qaBS : (.fieldLink RX10 19 "MarchHares" "ground" "LMarchHares$Down;" : Cond) ∈ wsX10_hops := qth 20 (by decide +kernel)
theorem qOJ : (.fieldLink RX10 58 "MarchHares" "now" "LMarchHares$Days;" : Cond) ∈ wsX10_hops := qth 79 (by decide +kernel)
set_option maxHeartbeats 4000000 in
set_option maxRecDepth 100000 in
theorem qaYs (l : Launch) (dC : Nat → ClassId) (dI : Nat → Nat → Nat) (cyB cyI cyJ cyP : ClassId) (a0 jaR jaT jbb jb6 jcc jcl jbW jbL jbs jbt sz : Nat) (jaK ja1 jcp jbc jbV ja3 jbH jbO jaq jac jbI jbl jbn jba jaa jdD jbo jbp jbk jbj jbf jbq jbi jcd jbr : Value) (jbE jbm : Int32) (jbQ : NI) (jdh : Int32) (jdN jdi jci jcj : NI) (jdu : Int32) (jfl jfM : NI) (p1 p2 : Int32) {E : String → Int32 → NI → NI → Prop} {Q : Int32 → Int32 → NI → NI → Prop} (hw : q8E jbE jbm jbQ jdh jdN jdi jci jcj jdu jfl jfM p1 p2 E Q) : vx_Met l yX10_hops wsX10_hops ({ frames := 7, cells := 2, slots := 12, locals := 141 }) (va_Pc [.ref a0, .int p1, .int p2] (cPx l (dC, dI) (kT cyB cyI cyJ cyP) (qAU a0 jaK jaR ja1 jcp jbc jbV ja3 jbH jaT jbO jaq jac jbI jbl jbn jba jaa jdu jdD jaR jbs jbt jbo jbp jbk jbj jbf jbq jbE jbm jbi jcd jaT jbb jbr jaR jb6 jbb cyI jbQ jb6 jbW jbL jcl jcc jdh jcc cyI jfl jcl cyI jfM jbW cyI jdN jbL cyI jdi jbs cyI jci jbt cyI jcj) sz)) (va_Qi (fun (r : Int32) (u : Int32 × NI × NI) => Q r u.1 u.2.1 u.2.2) (cB (dC, dI) (kT cyB cyI cyJ cyP) (va_A (qAU a0 jaK jaR ja1 jcp jbc jbV ja3 jbH jaT jbO jaq jac jbI jbl jbn jba jaa jdu jdD jaR jbs jbt jbo jbp jbk jbj jbf jbq jbE jbm jbi jcd jaT jbb jbr jaR jb6 jbb cyI jbQ jb6 jbW jbL jcl jcc jdh jcc cyI jfl jcl cyI jfM jbW cyI jdN jbL cyI jdi jbs cyI jci jbt cyI jcj) sz) (fun u : Int32 × NI × NI => ((qAU a0 jaK jaR ja1 jcp jbc jbV ja3 jbH jaT jbO jaq jac jbI jbl jbn jba jaa u.1 jdD jaR jbs jbt jbo jbp jbk jbj jbf jbq jbE jbm jbi jcd jaT jbb jbr jaR jb6 jbb cyI jbQ jb6 jbW jbL jcl jcc jdh jcc cyI u.2.1 jcl cyI u.2.2 jbW cyI jdN jbL cyI jdi jbs cyI jci jbt cyI jcj) : va_W))) (va_A (qAU a0 jaK jaR ja1 jcp jbc jbV ja3 jbH jaT jbO jaq jac jbI jbl jbn jba jaa jdu jdD jaR jbs jbt jbo jbp jbk jbj jbf jbq jbE jbm jbi jcd jaT jbb jbr jaR jb6 jbb cyI jbQ jb6 jbW jbL jcl jcc jdh jcc cyI jfl jcl cyI jfM jbW cyI jdN jbL cyI jdi jbs cyI jci jbt cyI jcj) sz)) (vx_X (fun _ => True) (fun (en : String) (u : Int32 × NI × NI) (t : State) => E en u.1 u.2.1 u.2.2 ∧ cB (dC, dI) (kT cyB cyI cyJ cyP) (va_A (qAU a0 jaK jaR ja1 jcp jbc jbV ja3 jbH jaT jbO jaq jac jbI jbl jbn jba jaa jdu jdD jaR jbs jbt jbo jbp jbk jbj jbf jbq jbE jbm jbi jcd jaT jbb jbr jaR jb6 jbb cyI jbQ jb6 jbW jbL jcl jcc jdh jcc cyI jfl jcl cyI jfM jbW cyI jdN jbL cyI jdi jbs cyI jci jbt cyI jcj) sz) (fun u : Int32 × NI × NI => ((qAU a0 jaK jaR ja1 jcp jbc jbV ja3 jbH jaT jbO jaq jac jbI jbl jbn jba jaa u.1 jdD jaR jbs jbt jbo jbp jbk jbj jbf jbq jbE jbm jbi jcd jaT jbb jbr jaR jb6 jbb cyI jbQ jb6 jbW jbL jcl jcc jdh jcc cyI u.2.1 jcl cyI u.2.2 jbW cyI jdN jbL cyI jdi jbs cyI jci jbt cyI jcj) : va_W)) u t) (va_A (qAU a0 jaK jaR ja1 jcp jbc jbV ja3 jbH jaT jbO jaq jac jbI jbl jbn jba jaa jdu jdD jaR jbs jbt jbo jbp jbk jbj jbf jbq jbE jbm jbi jcd jaT jbb jbr jaR jb6 jbb cyI jbQ jb6 jbW jbL jcl jcc jdh jcc cyI jfl jcl cyI jfM jbW cyI jdN jbL cyI jdi jbs cyI jci jbt cyI jcj) sz)) 2 12 (va_A (qAU a0 jaK jaR ja1 jcp jbc jbV ja3 jbH jaT jbO jaq jac jbI jbl jbn jba jaa jdu jdD jaR jbs jbt jbo jbp jbk jbj jbf jbq jbE jbm jbi jcd jaT jbb jbr jaR jb6 jbb cyI jbQ jb6 jbW jbL jcl jcc jdh jcc cyI jfl jcl cyI jfM jbW cyI jdN jbL cyI jdi jbs cyI jci jbt cyI jcj) sz) := by
  refine vx_ofW (cc := cX10_hops) (maxL := 3) (ret := (some .int)) (by decide) rfl ?_
  intro p e s m args below meth c s₁ B hml hnt hv
  obtain ⟨rfl, hsz, hP, hK, hD0, hNw, hXl, hXu, hXn, hXt⟩ := hv
  have hx := B.exec
  have hb := B.bytes
  have hr := B.returns
  have hts := atoms_spec (ws := wsX10_hops) B.pre
  have hown : s.vm.findClass RX10 = some m.cls := findClass_of_methodNamed B.named
  have hlocks := B.notSynchronized
  subst hsz
  have hD := hD0.self (sz := s.heap.size)
  generalize hAe : va_A (qAU a0 jaK jaR ja1 jcp jbc jbV ja3 jbH jaT jbO jaq jac jbI jbl jbn jba jaa jdu jdD jaR jbs jbt jbo jbp jbk jbj jbf jbq jbE jbm jbi jcd jaT jbb jbr jaR jb6 jbb cyI jbQ jb6 jbW jbL jcl jcc jdh jcc cyI jfl jcl cyI jfM jbW cyI jdN jbL cyI jdi jbs cyI jci jbt cyI jcj) s.heap.size = A at hD hXu hXn ⊢
  have hA : ∀ q : Nat, s.heap.size ≤ q → A q := fun q h => by rw [← hAe]; exact Or.inr h
  have hS : va_S A s.heap s.heap [] := va_S.rf
  have hP : va_P (dC, dI) vwCl (qAU a0 jaK jaR ja1 jcp jbc jbV ja3 jbH jaT jbO jaq jac jbI jbl jbn jba jaa jdu jdD jaR jbs jbt jbo jbp jbk jbj jbf jbq jbE jbm jbi jcd jaT jbb jbr jaR jb6 jbb cyI jbQ jb6 jbW jbL jcl jcc jdh jcc cyI jfl jcl cyI jfM jbW cyI jdN jbL cyI jdi jbs cyI jci jbt cyI jcj) s.heap := hP
  have hl := lv_entry ([.ref a0, .int p1, .int p2]) (n := 3) (nbq rfl)
  rw [lg_entry_eq]
  generalize (lg_sl ([.ref a0, .int p1, .int p2]) ++ List.replicate (3 - (lg_sl ([.ref a0, .int p1, .int p2])).length) Slot.unset).toArray = ls at hl ⊢
  have hl : lv_has ls 3 [(0, .ref a0), (1, .int p1), (2, .int p2)] := hl
  have hY : cfY l s A := ⟨hXl, hXu, hXn, hXt⟩
  have hXs : cfX l s c A := ⟨hnt, hY⟩
  have C0 : cfx p s m _ meth c cX10_hops (some .int) wsX10_hops RX10 3 A (dC, dI) (kT cyB cyI cyJ cyP) ∧ cfX l s c A := ⟨⟨hx, hb, hr, hts, hown, hlocks, hml, hA, hK, hNw⟩, hXs⟩
  clear hAe
  obtain ⟨H, hH⟩ : ∃ H, H = s.heap := ⟨_, rfl⟩
  rw [← hH] at hP ⊢
  have hS : va_S A s.heap H [] := by rw [hH]; exact va_S.rf
  have hS := hS
  refine lv_aload_n hx hb (qaa qlG 0 rfl) rfl (lv_at hl 0 rfl) ?_
  refine lv_iload_n hx hb (qaa qlG 1 rfl) rfl (lv_at hl 1 rfl) ?_
  obtain ⟨hCc, hPc, hDc, hFc⟩ := qac (ws' := (qal8 a0 jaK jaR ja1 jcp jbc jbV ja3 jbH jaT jbO jaq jac jbI jbl jbn jba jaa jdu jdD jaR jbs jbt jbo jbp jbk jbj jbf jbq jbE jbm jbi jcd)) hP hD hS hA [0, 1] (by decide +kernel) rfl
  refine vx_callv (vx_runV (As := [.int p1]) (rest := []) ⟨hx, hb, hml, hown, hts⟩ (qqt l dC dI cyB cyI cyJ cyP a0 jaR H.size (jaK) (ja1) (jcp) (jbc) (jbV) (ja3) (jbH) (.ref jaT) (jbO) (jaq) (jac) (jbI) (jbl) (jbn) (jba) (jaa) (jdD) (.ref jbs) (.ref jbt) (jbo) (jbp) (jbk) (jbj) (jbf) (jbq) (.int jbE) (jbi) (jcd) jbm jdu p1 hw) (cwV 1 hts gX10_hops_X10_needHare rfl rfl rfl (by decide +kernel) ⟨nbq rfl, nbq rfl⟩) ⟨qav, va_recv (q := (RX10, TX10, 19)) hK hPc (ci := 10) (q0 := 0) rfl rfl, qbl hPc hK hDc hNw hY hS hFc⟩ rfl rfl hl.1 rfl (lv_room (nbq rfl)) (qaa qlG 2 rfl) ⟨nbq rfl, nbq rfl⟩) hS (fun q _ h => hFc q h) hFc (fun q _ h => hFc q h) (fun en ce q9 u t H1 locs ht hvm hpx hB hz1 hk1 hS hc9 hv9 hcl9 => ?_) (fun u t H1 locs ht hvm hw hB hz1 hk1 hS => ?_)
  · obtain ⟨x1, rfl⟩ : ∃ z, z = u := ⟨_, rfl⟩
    obtain ⟨hw, hP1, hK1, hD1⟩ := hB
    rw [ht] at hP1
    obtain ⟨hP, hD⟩ := qad (wr := (qaNA jaT jbb jbr jaR jb6 jbb cyI jbQ jb6 jbW jbL jcl jcc jdh jcc cyI jfl jcl cyI jfM jbW cyI jdN jbL cyI jdi jbs cyI jci jbt cyI jcj)) (w1 := (qal8 a0 jaK jaR ja1 jcp jbc jbV ja3 jbH jaT jbO jaq jac jbI jbl jbn jba jaa x1 jdD jaR jbs jbt jbo jbp jbk jbj jbf jbq jbE jbm jbi jcd)) (wn := (qAU a0 jaK jaR ja1 jcp jbc jbV ja3 jbH jaT jbO jaq jac jbI jbl jbn jba jaa x1 jdD jaR jbs jbt jbo jbp jbk jbj jbf jbq jbE jbm jbi jcd jaT jbb jbr jaR jb6 jbb cyI jbQ jb6 jbW jbL jcl jcc jdh jcc cyI jfl jcl cyI jfM jbW cyI jdN jbL cyI jdi jbs cyI jci jbt cyI jcj)) hP hD [0, 1] [2, 3, 4, 5, 6, 7, 8, 9, 10] [9, 10, 0, 1, 2, 3, 4, 5, 6, 7, 8] hCc rfl (by decide +kernel) (by decide +kernel) (by decide +kernel) rfl hk1 hFc hP1 hD1
    generalize H1 = H at hP hS hc9 ⊢
    exact vx_out (fun x hx9 => (hXs.1 x hx9).elim) hlocks hc9 hv9 hcl9 (fun t2 ht2 hal2 => ⟨(x1, jfl, jfM), trivial, ⟨hw, by rw [ht2]; exact hP, va_K.moved hal2 hK, hD⟩, hS.F ht2⟩) hS.2.2 (nbq rfl) (nbq rfl)
  obtain ⟨x1, rfl⟩ : ∃ z, z = u := ⟨_, rfl⟩
  obtain ⟨hP1, hK1, hD1⟩ := hB
  rw [ht] at hP1
  obtain ⟨hP, hD⟩ := qad (wr := (qaNA jaT jbb jbr jaR jb6 jbb cyI jbQ jb6 jbW jbL jcl jcc jdh jcc cyI jfl jcl cyI jfM jbW cyI jdN jbL cyI jdi jbs cyI jci jbt cyI jcj)) (w1 := (qal8 a0 jaK jaR ja1 jcp jbc jbV ja3 jbH jaT jbO jaq jac jbI jbl jbn jba jaa x1 jdD jaR jbs jbt jbo jbp jbk jbj jbf jbq jbE jbm jbi jcd)) (wn := (qAU a0 jaK jaR ja1 jcp jbc jbV ja3 jbH jaT jbO jaq jac jbI jbl jbn jba jaa x1 jdD jaR jbs jbt jbo jbp jbk jbj jbf jbq jbE jbm jbi jcd jaT jbb jbr jaR jb6 jbb cyI jbQ jb6 jbW jbL jcl jcc jdh jcc cyI jfl jcl cyI jfM jbW cyI jdN jbL cyI jdi jbs cyI jci jbt cyI jcj)) hP hD [0, 1] [2, 3, 4, 5, 6, 7, 8, 9, 10] [9, 10, 0, 1, 2, 3, 4, 5, 6, 7, 8] hCc rfl (by decide +kernel) (by decide +kernel) (by decide +kernel) rfl hk1 hFc hP1 hD1
  generalize H1 = H at hP hS ⊢
  refine lv_aload_n hx hb (qaa qlG 3 rfl) rfl (lv_at hl 0 rfl) ?_
  refine lv_iload_n hx hb (qaa qlG 4 rfl) rfl (lv_at hl 2 rfl) ?_
  obtain ⟨hCc, hPc, hDc, hFc⟩ := qac (ws' := (qal8 a0 jaK jaR ja1 jcp jbc jbV ja3 jbH jaT jbO jaq jac jbI jbl jbn jba jaa x1 jdD jaR jbs jbt jbo jbp jbk jbj jbf jbq jbE jbm jbi jcd)) hP hD hS hA [0, 1] (by decide +kernel) rfl
  refine vx_callv (vx_runV (As := [.int p2]) (rest := []) ⟨hx, hb, hml, hown, hts⟩ (qyi l dC dI cyB cyI cyJ cyP a0 jaR H.size (jaK) (ja1) (jcp) (jbc) (jbV) (ja3) (jbH) (.ref jaT) (jbO) (jaq) (jac) (jbI) (jbl) (jbn) (jba) (jaa) (jdD) (.ref jbs) (.ref jbt) (jbo) (jbp) (jbk) (jbj) (jbf) (jbq) (.int jbm) (jbi) (jcd) jbE x1 p2 hw) (cwV 1 hts gX10_hops_X10_needForm rfl rfl rfl (by decide +kernel) ⟨nbq rfl, nbq rfl⟩) ⟨qav, va_recv (q := (RX10, TX10, 19)) hK hPc (ci := 10) (q0 := 0) rfl rfl, qbl hPc hK hDc hNw hY hS hFc⟩ rfl rfl hl.1 rfl (lv_room (nbq rfl)) (qaa qlG 5 rfl) ⟨nbq rfl, nbq rfl⟩) hS (fun q _ h => hFc q h) hFc (fun q _ h => hFc q h) (fun en ce q9 u t H1 locs ht hvm hpx hB hz1 hk1 hS hc9 hv9 hcl9 => ?_) (fun u t H1 locs ht hvm hw hB hz1 hk1 hS => ?_)
  · obtain ⟨x2, rfl⟩ : ∃ z, z = u := ⟨_, rfl⟩
    obtain ⟨hw, hP1, hK1, hD1⟩ := hB
    rw [ht] at hP1
    obtain ⟨hP, hD⟩ := qad (wr := (qaNA jaT jbb jbr jaR jb6 jbb cyI jbQ jb6 jbW jbL jcl jcc jdh jcc cyI jfl jcl cyI jfM jbW cyI jdN jbL cyI jdi jbs cyI jci jbt cyI jcj)) (w1 := (qal8 a0 jaK jaR ja1 jcp jbc jbV ja3 jbH jaT jbO jaq jac jbI jbl jbn jba jaa x2 jdD jaR jbs jbt jbo jbp jbk jbj jbf jbq jbE jbm jbi jcd)) (wn := (qAU a0 jaK jaR ja1 jcp jbc jbV ja3 jbH jaT jbO jaq jac jbI jbl jbn jba jaa x2 jdD jaR jbs jbt jbo jbp jbk jbj jbf jbq jbE jbm jbi jcd jaT jbb jbr jaR jb6 jbb cyI jbQ jb6 jbW jbL jcl jcc jdh jcc cyI jfl jcl cyI jfM jbW cyI jdN jbL cyI jdi jbs cyI jci jbt cyI jcj)) hP hD [0, 1] [2, 3, 4, 5, 6, 7, 8, 9, 10] [9, 10, 0, 1, 2, 3, 4, 5, 6, 7, 8] hCc rfl (by decide +kernel) (by decide +kernel) (by decide +kernel) rfl hk1 hFc hP1 hD1
    generalize H1 = H at hP hS hc9 ⊢
    exact vx_out (fun x hx9 => (hXs.1 x hx9).elim) hlocks hc9 hv9 hcl9 (fun t2 ht2 hal2 => ⟨(x2, jfl, jfM), trivial, ⟨hw, by rw [ht2]; exact hP, va_K.moved hal2 hK, hD⟩, hS.F ht2⟩) hS.2.2 (nbq rfl) (nbq rfl)
  obtain ⟨x2, rfl⟩ : ∃ z, z = u := ⟨_, rfl⟩
  obtain ⟨hP1, hK1, hD1⟩ := hB
  rw [ht] at hP1
  obtain ⟨hP, hD⟩ := qad (wr := (qaNA jaT jbb jbr jaR jb6 jbb cyI jbQ jb6 jbW jbL jcl jcc jdh jcc cyI jfl jcl cyI jfM jbW cyI jdN jbL cyI jdi jbs cyI jci jbt cyI jcj)) (w1 := (qal8 a0 jaK jaR ja1 jcp jbc jbV ja3 jbH jaT jbO jaq jac jbI jbl jbn jba jaa x2 jdD jaR jbs jbt jbo jbp jbk jbj jbf jbq jbE jbm jbi jcd)) (wn := (qAU a0 jaK jaR ja1 jcp jbc jbV ja3 jbH jaT jbO jaq jac jbI jbl jbn jba jaa x2 jdD jaR jbs jbt jbo jbp jbk jbj jbf jbq jbE jbm jbi jcd jaT jbb jbr jaR jb6 jbb cyI jbQ jb6 jbW jbL jcl jcc jdh jcc cyI jfl jcl cyI jfM jbW cyI jdN jbL cyI jdi jbs cyI jci jbt cyI jcj)) hP hD [0, 1] [2, 3, 4, 5, 6, 7, 8, 9, 10] [9, 10, 0, 1, 2, 3, 4, 5, 6, 7, 8] hCc rfl (by decide +kernel) (by decide +kernel) (by decide +kernel) rfl hk1 hFc hP1 hD1
  generalize H1 = H at hP hS ⊢
  refine lv_aload_n hx hb (qaa qlG 6 rfl) rfl (lv_at hl 0 rfl) ?_
  refine va_get (D := (dC, dI)) (ci := 10) (v := .ref jaT) (C := RX10) (T := TX10) (N := 19) hx hb hts qIW hown hK hP 0 rfl rfl 8 (by decide) (hts _ qOJ) (fun _ h9 => h9) rfl (qaa qlG 7 rfl) ?_
  refine lv_iload_n hx hb (qaa qlG 8 rfl) rfl (lv_at hl 1 rfl) ?_
  obtain ⟨hCc, hPc, hDc, hFc⟩ := qac (ws' := (qDj jaT jbb jbr jaR jb6 jbb cyI jbQ)) hP hD hS hA [2, 3] (by decide +kernel) rfl
  refine va_calli (va_runV (As := [.int p1]) (rest := []) ⟨hx, hb, hml, hown, hts⟩ (qia l dC dI cyB cyI cyJ cyP jaT jbb H.size (jbr) (.ref jaR) (.ref jb6) jbQ p1 hw) (cwV 1 hts gX10_hops_X1_isCaught rfl rfl rfl (by decide +kernel) ⟨nbq rfl, nbq rfl⟩) ⟨qab, va_recv (q := (RX1, TX1, 4)) hK hPc (ci := 1) (q0 := 0) rfl rfl, qae hPc hK hDc hNw⟩ rfl rfl hl.1 rfl (lv_room (nbq rfl)) (qaa qlG 9 rfl) ⟨nbq rfl, nbq rfl⟩) hS (fun q _ h => hFc q h) hFc (fun r3 u t H1 locs ht hvm hw hB hz1 hk1 hS => ?_)
  obtain ⟨hP1, hK1, hD1⟩ := hB
  rw [ht] at hP1
  obtain ⟨hP, hD⟩ := qad (wr := (qa7x a0 jaK jaR ja1 jcp jbc jbV ja3 jbH jaT jbO jaq jac jbI jbl jbn jba jaa x2 jdD jaR jbs jbt jbo jbp jbk jbj jbf jbq jbE jbm jbi jcd jb6 jbW jbL jcl jcc jdh jcc cyI jfl jcl cyI jfM jbW cyI jdN jbL cyI jdi jbs cyI jci jbt cyI jcj)) (w1 := (qDj jaT jbb jbr jaR jb6 jbb cyI jbQ)) (wn := (qAU a0 jaK jaR ja1 jcp jbc jbV ja3 jbH jaT jbO jaq jac jbI jbl jbn jba jaa x2 jdD jaR jbs jbt jbo jbp jbk jbj jbf jbq jbE jbm jbi jcd jaT jbb jbr jaR jb6 jbb cyI jbQ jb6 jbW jbL jcl jcc jdh jcc cyI jfl jcl cyI jfM jbW cyI jdN jbL cyI jdi jbs cyI jci jbt cyI jcj)) hP hD [2, 3] [0, 1, 4, 5, 6, 7, 8, 9, 10] [0, 1, 9, 10, 2, 3, 4, 5, 6, 7, 8] hCc rfl (by decide +kernel) (by decide +kernel) (by decide +kernel) rfl hk1 hFc hP1 hD1
  generalize H1 = H at hP hS ⊢
  refine lv_if_eq (tgt := 23) hx hb (qaa qlG 10 rfl) (by decide) (fun c4 => ?_) (fun c4 => ?_)
  · have hw := hw.1 c4
    refine lv_aload_n hx hb (qaa qlG 13 rfl) rfl (lv_at hl 0 rfl) ?_
    refine va_get (D := (dC, dI)) (ci := 10) (v := .ref jaR) (C := RX10) (T := TX10) (N := 19) hx hb hts qIW hown hK hP 0 rfl rfl 1 (by decide) (hts _ qaBS) (fun _ h9 => h9) rfl (qaa qlG 14 rfl) ?_
    refine lv_aload_n hx hb (qaa qlG 15 rfl) rfl (lv_at hl 0 rfl) ?_
    refine va_get (D := (dC, dI)) (ci := 10) (v := .ref jaT) (C := RX10) (T := TX10) (N := 19) hx hb hts qIW hown hK hP 0 rfl rfl 8 (by decide) (hts _ qOJ) (fun _ h9 => h9) rfl (qaa qrO 0 rfl) ?_
    refine lv_iload_n hx hb (qaa qrO 1 rfl) rfl (lv_at hl 1 rfl) ?_
    obtain ⟨hCc, hPc, hDc, hFc⟩ := qac (ws' := (qDj jaT jbb jbr jaR jb6 jbb cyI jbQ)) hP hD hS hA [2, 3] (by decide +kernel) rfl
    refine va_calli (va_runV (As := [.int p1]) (rest := [.ref jaR]) ⟨hx, hb, hml, hown, hts⟩ (qvw l dC dI cyB cyI cyJ cyP jaT jbb H.size (jbr) (.ref jaR) (.ref jb6) jbQ p1 hw) (cwV 1 hts gX10_hops_X1_sits rfl rfl rfl (by decide +kernel) ⟨nbq rfl, nbq rfl⟩) ⟨qab, va_recv (q := (RX1, TX1, 4)) hK hPc (ci := 1) (q0 := 0) rfl rfl, qae hPc hK hDc hNw⟩ rfl rfl hl.1 rfl (lv_room (nbq rfl)) (qaa qrO 2 rfl) ⟨nbq rfl, nbq rfl⟩) hS (fun q _ h => hFc q h) hFc (fun r5 u t H1 locs ht hvm hw hB hz1 hk1 hS => ?_)
    obtain ⟨hP1, hK1, hD1⟩ := hB
    rw [ht] at hP1
    obtain ⟨hP, hD⟩ := qad (wr := (qa7x a0 jaK jaR ja1 jcp jbc jbV ja3 jbH jaT jbO jaq jac jbI jbl jbn jba jaa x2 jdD jaR jbs jbt jbo jbp jbk jbj jbf jbq jbE jbm jbi jcd jb6 jbW jbL jcl jcc jdh jcc cyI jfl jcl cyI jfM jbW cyI jdN jbL cyI jdi jbs cyI jci jbt cyI jcj)) (w1 := (qDj jaT jbb jbr jaR jb6 jbb cyI jbQ)) (wn := (qAU a0 jaK jaR ja1 jcp jbc jbV ja3 jbH jaT jbO jaq jac jbI jbl jbn jba jaa x2 jdD jaR jbs jbt jbo jbp jbk jbj jbf jbq jbE jbm jbi jcd jaT jbb jbr jaR jb6 jbb cyI jbQ jb6 jbW jbL jcl jcc jdh jcc cyI jfl jcl cyI jfM jbW cyI jdN jbL cyI jdi jbs cyI jci jbt cyI jcj)) hP hD [2, 3] [0, 1, 4, 5, 6, 7, 8, 9, 10] [0, 1, 9, 10, 2, 3, 4, 5, 6, 7, 8] hCc rfl (by decide +kernel) (by decide +kernel) (by decide +kernel) rfl hk1 hFc hP1 hD1
    generalize H1 = H at hP hS ⊢
    refine lv_iload_n hx hb (qaa qrO 3 rfl) rfl (lv_at hl 2 rfl) ?_
    refine lv_aload_n hx hb (qaa qrO 4 rfl) rfl (lv_at hl 0 rfl) ?_
    refine va_get (D := (dC, dI)) (ci := 10) (v := .ref jaT) (C := RX10) (T := TX10) (N := 19) hx hb hts qIW hown hK hP 0 rfl rfl 8 (by decide) (hts _ qOJ) (fun _ h9 => h9) rfl (qaa qrO 5 rfl) ?_
    refine lv_iload_n hx hb (qaa qrO 6 rfl) rfl (lv_at hl 1 rfl) ?_
    obtain ⟨hCc, hPc, hDc, hFc⟩ := qac (ws' := (qa7V jaT jbb jbr jaR jb6 jbb cyI jbQ jaR jbs jbt jbo jbp jbk jbj jbf jbq jbE jbm jbi jcd jb6 jbW jbL jcl jcc jdh jcc cyI jfl jcl cyI jfM jbW cyI jdN jbL cyI jdi)) hP hD hS hA [2, 3, 1, 4, 5, 6, 7, 8] (by decide +kernel) rfl
    refine va_calli (va_runV (As := [.int p1]) (rest := [.int p2, .int r5, .ref jaR]) ⟨hx, hb, hml, hown, hts⟩ (qXQ l dC dI cyB cyI cyJ cyP jaT jbb jaR jb6 jcc jcl jbW jbL H.size (jbr) (.ref jbs) (.ref jbt) (jbo) (jbp) (jbk) (jbj) (jbf) (jbq) (.int jbE) (jbi) (jcd) jbQ jbm jdh jdN jdi jfl jfM p1 hw) (cwV 1 hts gX10_hops_X1_reach rfl rfl rfl (by decide +kernel) ⟨nbq rfl, nbq rfl⟩) ⟨qab, va_recv (q := (RX1, TX1, 4)) hK hPc (ci := 1) (q0 := 0) rfl rfl, qae hPc hK hDc hNw⟩ rfl rfl hl.1 rfl (lv_room (nbq rfl)) (qaa qrO 7 rfl) ⟨nbq rfl, nbq rfl⟩) hS (fun q _ h => hFc q h) hFc (fun r8 u t H1 locs ht hvm hw hB hz1 hk1 hS => ?_)
    obtain ⟨f6, f7⟩ := u
    obtain ⟨hP1, hK1, hD1⟩ := hB
    rw [ht] at hP1
    obtain ⟨hP, hD⟩ := qad (wr := [(a0, .inr (10, [jaK, .ref jaR, ja1, jcp, jbc, jbV, ja3, jbH, .ref jaT, jbO, jaq, jac, jbI, jbl, jbn, jba, jaa, .int x2, jdD])), (jbs, .inl (cyI, 8, .inl jci)), (jbt, .inl (cyI, 8, .inl jcj))]) (w1 := (qa7V jaT jbb jbr jaR jb6 jbb cyI jbQ jaR jbs jbt jbo jbp jbk jbj jbf jbq jbE jbm jbi jcd jb6 jbW jbL jcl jcc jdh jcc cyI f6 jcl cyI f7 jbW cyI jdN jbL cyI jdi)) (wn := (qAU a0 jaK jaR ja1 jcp jbc jbV ja3 jbH jaT jbO jaq jac jbI jbl jbn jba jaa x2 jdD jaR jbs jbt jbo jbp jbk jbj jbf jbq jbE jbm jbi jcd jaT jbb jbr jaR jb6 jbb cyI jbQ jb6 jbW jbL jcl jcc jdh jcc cyI f6 jcl cyI f7 jbW cyI jdN jbL cyI jdi jbs cyI jci jbt cyI jcj)) hP hD [2, 3, 1, 4, 5, 6, 7, 8] [0, 9, 10] [0, 5, 3, 4, 6, 7, 8, 9, 10, 1, 2] hCc rfl (by decide +kernel) (by decide +kernel) (by decide +kernel) rfl hk1 hFc hP1 hD1
    generalize H1 = H at hP hS ⊢
    obtain ⟨hCc, hPc, hDc, hFc⟩ := qac (ws' := (qa7U jaR jbs jbt jbo jbp jbk jbj jbf jbq jbE jbm jbi jcd jbs cyI jci jbt cyI jcj)) hP hD hS hA [1, 9, 10] (by decide +kernel) rfl
    refine va_calli (va_runV (As := [.int r5, .int p2, .int r8]) (rest := []) ⟨hx, hb, hml, hown, hts⟩ (qanC l dC dI cyB cyI cyJ cyP jaR jbs jbt H.size (jbo) (jbp) (jbk) (jbj) (jbf) (jbq) (.int jbm) (jbi) (jcd) jbE jci jcj r5 p2 r8 hw) (cwV 3 hts gX10_hops_X2_hopsBetween rfl rfl rfl (by decide +kernel) ⟨nbq rfl, nbq rfl⟩) ⟨qab, va_recv (q := (RX2, TX2, 12)) hK hPc (ci := 2) (q0 := 0) rfl rfl, qae hPc hK hDc hNw⟩ rfl rfl hl.1 rfl (lv_room (nbq rfl)) (qaa qrO 8 rfl) ⟨nbq rfl, nbq rfl⟩) hS (fun q _ h => hFc q h) hFc (fun r9 u t H1 locs ht hvm hw hB hz1 hk1 hS => ?_)
    obtain ⟨hP1, hK1, hD1⟩ := hB
    rw [ht] at hP1
    obtain ⟨hP, hD⟩ := qad (wr := [(a0, .inr (10, [jaK, .ref jaR, ja1, jcp, jbc, jbV, ja3, jbH, .ref jaT, jbO, jaq, jac, jbI, jbl, jbn, jba, jaa, .int x2, jdD])), (jaT, .inr (1, [.ref jbb, jbr, .ref jaR, .ref jb6])), (jbb, .inl (cyI, 64, .inl jbQ)), (jb6, .inr (4, [.ref jbW, .ref jbL, .ref jcl, .ref jcc, .int jdh])), (jcc, .inl (cyI, 8, .inl f6)), (jcl, .inl (cyI, 150, .inl f7)), (jbW, .inl (cyI, 150, .inl jdN)), (jbL, .inl (cyI, 150, .inl jdi))]) (w1 := (qa7U jaR jbs jbt jbo jbp jbk jbj jbf jbq jbE jbm jbi jcd jbs cyI jci jbt cyI jcj)) (wn := (qAU a0 jaK jaR ja1 jcp jbc jbV ja3 jbH jaT jbO jaq jac jbI jbl jbn jba jaa x2 jdD jaR jbs jbt jbo jbp jbk jbj jbf jbq jbE jbm jbi jcd jaT jbb jbr jaR jb6 jbb cyI jbQ jb6 jbW jbL jcl jcc jdh jcc cyI f6 jcl cyI f7 jbW cyI jdN jbL cyI jdi jbs cyI jci jbt cyI jcj)) hP hD [1, 9, 10] [0, 2, 3, 4, 5, 6, 7, 8] [0, 8, 1, 2, 3, 4, 5, 6, 7, 9, 10] hCc rfl (by decide +kernel) (by decide +kernel) (by decide +kernel) rfl hk1 hFc hP1 hD1
    generalize H1 = H at hP hS ⊢
    exact vx_ret (W.widen (k := 2) (n := 12) (nbq rfl) (nbq rfl) (W.iret (v := r9) hx hb hr (fun t ht hW => ⟨⟨r9, (x2, f6, f7), rfl, hw, by rw [ht]; exact hP, va_K.moved hW.alike hK, hD⟩, hS.F ht⟩) hS.2.2 (qaa qrO 9 rfl)))
  · have hw := hw.2 c4
    refine lv_iconst (v := (-1)) hx hb (qaa qlG 11 rfl) (by decide) ?_
    exact vx_ret (W.widen (k := 2) (n := 12) (nbq rfl) (nbq rfl) (W.iret (v := (-1)) hx hb hr (fun t ht hW => ⟨⟨(-1), (x2, jfl, jfM), rfl, hw, by rw [ht]; exact hP, va_K.moved hW.alike hK, hD⟩, hS.F ht⟩) hS.2.2 (qaa qlG 12 rfl)))
theorem qaJV : (.classLink RL 31 "java/util/NoSuchElementException" : Cond) ∈ wsL_hops := qavi 2643 (by decide +kernel)
theorem qaUT : (.codeWith yL_hops cL_hops 5 (some .int) [(0, 10, 13, 31)] : Cond) ∈ wsL_hops := qavi 3016 (by decide +kernel)
set_option maxHeartbeats 4000000 in
set_option maxRecDepth 100000 in
theorem qa9l (l : Launch) (dC : Nat → ClassId) (dI : Nat → Nat → Nat) (cyB cyI cyJ cyP : ClassId) (a0 a3 jaR jaT jbb jb6 jcc jcl jbW jbL jbs jbt sz : Nat) (jaK ja1 jbc jbV ja3 jbH jbO jaq jac jbI jbl jbn jba jaa jdD jbo jbp jbk jbj jbf jbq jbi jcd jbr : Value) (n3 : Nat) (jbE jbm : Int32) (jbQ : NI) (jdh : Int32) (jdN jdi jci jcj : NI) (jdu : Int32) (jfl jfM : NI) (f3 : Nat → Int64) (p1 p2 : Int32) {Q : Int32 → Int32 → NI → NI → (Nat → Int64) → Prop} (hw : qaWh n3 jbE jbm jbQ jdh jdN jdi jci jcj jdu jfl jfM f3 p1 p2 Q) : Met l yL_hops wsL_hops ({ frames := 8, cells := 2, slots := 12, locals := 163 }) (va_Pc [.ref a0, .int p1, .int p2, .ref a3] (cPx l (dC, dI) (kT cyB cyI cyJ cyP) (qMU a0 jaK jaR ja1 jb6 jbc jbV ja3 jbH jaT jbO jaq jac jbI jbl jbn jba jaa jdu jdD jaR jbs jbt jbo jbp jbk jbj jbf jbq jbE jbm jbi jcd jaT jbb jbr jaR jb6 jbb cyI jbQ jb6 jbW jbL jcl jcc jdh jcc cyI jfl jcl cyI jfM jbW cyI jdN jbL cyI jdi jbs cyI jci jbt cyI jcj a3 cyJ n3 f3) sz)) (va_Qi (fun (r : Int32) (u : Int32 × NI × NI × (Nat → Int64)) => Q r u.1 u.2.1 u.2.2.1 u.2.2.2) (cB (dC, dI) (kT cyB cyI cyJ cyP) (va_A (qMU a0 jaK jaR ja1 jb6 jbc jbV ja3 jbH jaT jbO jaq jac jbI jbl jbn jba jaa jdu jdD jaR jbs jbt jbo jbp jbk jbj jbf jbq jbE jbm jbi jcd jaT jbb jbr jaR jb6 jbb cyI jbQ jb6 jbW jbL jcl jcc jdh jcc cyI jfl jcl cyI jfM jbW cyI jdN jbL cyI jdi jbs cyI jci jbt cyI jcj a3 cyJ n3 f3) sz) (fun u : Int32 × NI × NI × (Nat → Int64) => ((qMU a0 jaK jaR ja1 jb6 jbc jbV ja3 jbH jaT jbO jaq jac jbI jbl jbn jba jaa u.1 jdD jaR jbs jbt jbo jbp jbk jbj jbf jbq jbE jbm jbi jcd jaT jbb jbr jaR jb6 jbb cyI jbQ jb6 jbW jbL jcl jcc jdh jcc cyI u.2.1 jcl cyI u.2.2.1 jbW cyI jdN jbL cyI jdi jbs cyI jci jbt cyI jcj a3 cyJ n3 u.2.2.2) : va_W))) (va_A (qMU a0 jaK jaR ja1 jb6 jbc jbV ja3 jbH jaT jbO jaq jac jbI jbl jbn jba jaa jdu jdD jaR jbs jbt jbo jbp jbk jbj jbf jbq jbE jbm jbi jcd jaT jbb jbr jaR jb6 jbb cyI jbQ jb6 jbW jbL jcl jcc jdh jcc cyI jfl jcl cyI jfM jbW cyI jdN jbL cyI jdi jbs cyI jci jbt cyI jcj a3 cyJ n3 f3) sz)) 2 12 (va_A (qMU a0 jaK jaR ja1 jb6 jbc jbV ja3 jbH jaT jbO jaq jac jbI jbl jbn jba jaa jdu jdD jaR jbs jbt jbo jbp jbk jbj jbf jbq jbE jbm jbi jcd jaT jbb jbr jaR jb6 jbb cyI jbQ jb6 jbW jbL jcl jcc jdh jcc cyI jfl jcl cyI jfM jbW cyI jdN jbL cyI jdi jbs cyI jci jbt cyI jcj a3 cyJ n3 f3) sz) := by
  refine va_MetW (cc := cL_hops) (maxL := 5) (ret := (some .int)) (by decide) rfl ?_
  intro p e s m args below meth c s₁ B hml hv
  obtain ⟨rfl, hsz, hP, hK, hD0, hNw, hXl, hXu, hXn, hXt⟩ := hv
  have hx := B.exec
  have hb := B.bytes
  have hr := B.returns
  have hts := atoms_spec (ws := wsL_hops) B.pre
  have hown : s.vm.findClass RL = some m.cls := findClass_of_methodNamed B.named
  have hlocks := B.notSynchronized
  subst hsz
  have hD := hD0.self (sz := s.heap.size)
  generalize hAe : va_A (qMU a0 jaK jaR ja1 jb6 jbc jbV ja3 jbH jaT jbO jaq jac jbI jbl jbn jba jaa jdu jdD jaR jbs jbt jbo jbp jbk jbj jbf jbq jbE jbm jbi jcd jaT jbb jbr jaR jb6 jbb cyI jbQ jb6 jbW jbL jcl jcc jdh jcc cyI jfl jcl cyI jfM jbW cyI jdN jbL cyI jdi jbs cyI jci jbt cyI jcj a3 cyJ n3 f3) s.heap.size = A at hD hXu hXn ⊢
  have hA : ∀ q : Nat, s.heap.size ≤ q → A q := fun q h => by rw [← hAe]; exact Or.inr h
  have hS : va_S A s.heap s.heap [] := va_S.rf
  have hP : va_P (dC, dI) vwCl (qMU a0 jaK jaR ja1 jb6 jbc jbV ja3 jbH jaT jbO jaq jac jbI jbl jbn jba jaa jdu jdD jaR jbs jbt jbo jbp jbk jbj jbf jbq jbE jbm jbi jcd jaT jbb jbr jaR jb6 jbb cyI jbQ jb6 jbW jbL jcl jcc jdh jcc cyI jfl jcl cyI jfM jbW cyI jdN jbL cyI jdi jbs cyI jci jbt cyI jcj a3 cyJ n3 f3) s.heap := hP
  have hl := lv_entry ([.ref a0, .int p1, .int p2, .ref a3]) (n := 5) (nbq rfl)
  rw [lg_entry_eq]
  generalize (lg_sl ([.ref a0, .int p1, .int p2, .ref a3]) ++ List.replicate (5 - (lg_sl ([.ref a0, .int p1, .int p2, .ref a3])).length) Slot.unset).toArray = ls at hl ⊢
  have hl : lv_has ls 5 [(0, .ref a0), (1, .int p1), (2, .int p2), (3, .ref a3)] := hl
  have hY : cfY l s A := ⟨hXl, hXu, hXn, hXt⟩
  have hTb := vx_table (x := yL_hops) B (hts _ qaUT)
  clear hAe
  obtain ⟨H, hH⟩ : ∃ H, H = s.heap := ⟨_, rfl⟩
  rw [← hH] at hP ⊢
  have hS : va_S A s.heap H [] := by rw [hH]; exact va_S.rf
  have hS := hS
  refine lv_aload_n hx hb (qaa qsj 0 rfl) rfl (lv_at hl 3 rfl) ?_
  refine lv_iconst (v := 0) hx hb (qaa qsj 1 rfl) (by decide) ?_
  refine lv_aload_n hx hb (qaa qsj 2 rfl) rfl (lv_at hl 0 rfl) ?_
  refine lv_iload_n hx hb (qaa qsj 3 rfl) rfl (lv_at hl 1 rfl) ?_
  refine lv_iload_n hx hb (qaa qsj 4 rfl) rfl (lv_at hl 2 rfl) ?_
  obtain ⟨hCc, hPc, hDc, hFc⟩ := qac (ws' := (qaYd a0 jaK jaR ja1 jb6 jbc jbV ja3 jbH jaT jbO jaq jac jbI jbl jbn jba jaa jdu jdD jaR jbs jbt jbo jbp jbk jbj jbf jbq jbE jbm jbi jcd jaT jbb jbr jaR jb6 jbb cyI jbQ jb6 jbW jbL jcl jcc jdh jcc cyI jfl jcl cyI jfM jbW cyI jdN jbL cyI jdi jbs cyI jci jbt cyI jcj)) hP hD hS hA [0, 1, 2, 3, 4, 5, 6, 7, 8, 9, 10] (by decide +kernel) rfl
  refine vx_calli (vx_runV (As := [.int p1, .int p2]) (rest := [.int 0, .ref a3]) ⟨hx, hb, hml, hown, hts⟩ (qaYs l dC dI cyB cyI cyJ cyP a0 jaR jaT jbb jb6 jcc jcl jbW jbL jbs jbt H.size (jaK) (ja1) (.ref jb6) (jbc) (jbV) (ja3) (jbH) (jbO) (jaq) (jac) (jbI) (jbl) (jbn) (jba) (jaa) (jdD) (jbo) (jbp) (jbk) (jbj) (jbf) (jbq) (jbi) (jcd) (jbr) jbE jbm jbQ jdh jdN jdi jci jcj jdu jfl jfM p1 p2 hw) (cwV 2 hts gL_hops_X10_hops rfl rfl rfl (by decide +kernel) ⟨nbq rfl, nbq rfl⟩) ⟨qav, va_recv (q := (RX10, TX10, 19)) hK hPc (ci := 10) (q0 := 0) rfl rfl, qbl hPc hK hDc hNw hY hS hFc⟩ rfl rfl hl.1 rfl (lv_room (nbq rfl)) (qaa qsj 5 rfl) ⟨nbq rfl, nbq rfl⟩) hS (fun q _ h => hFc q h) hFc (fun q _ h => hFc q h) (fun en ce qx9 u t H1 locs ht hvm hpx hB hz1 hk1 hS hc9 hv9 hcl9 => ?_) (fun r5 u t H1 locs ht hvm hw hB hz1 hk1 hS => ?_)
  · obtain ⟨x1, f2, f4⟩ := u
    obtain ⟨hw, hP1, hK1, hD1⟩ := hB
    rw [ht] at hP1
    obtain ⟨hP, hD⟩ := qad (wr := [(a3, .inl (cyJ, n3, .inr (.inl f3)))]) (w1 := (qaYd a0 jaK jaR ja1 jb6 jbc jbV ja3 jbH jaT jbO jaq jac jbI jbl jbn jba jaa x1 jdD jaR jbs jbt jbo jbp jbk jbj jbf jbq jbE jbm jbi jcd jaT jbb jbr jaR jb6 jbb cyI jbQ jb6 jbW jbL jcl jcc jdh jcc cyI f2 jcl cyI f4 jbW cyI jdN jbL cyI jdi jbs cyI jci jbt cyI jcj)) (wn := (qMU a0 jaK jaR ja1 jb6 jbc jbV ja3 jbH jaT jbO jaq jac jbI jbl jbn jba jaa x1 jdD jaR jbs jbt jbo jbp jbk jbj jbf jbq jbE jbm jbi jcd jaT jbb jbr jaR jb6 jbb cyI jbQ jb6 jbW jbL jcl jcc jdh jcc cyI f2 jcl cyI f4 jbW cyI jdN jbL cyI jdi jbs cyI jci jbt cyI jcj a3 cyJ n3 f3)) hP hD [0, 1, 2, 3, 4, 5, 6, 7, 8, 9, 10] [11] [1, 2, 3, 4, 5, 6, 7, 8, 9, 10, 11, 0] hCc rfl (by decide +kernel) (by decide +kernel) (by decide +kernel) rfl hk1 hFc hP1 hD1
    generalize H1 = H at hP hS hc9 ⊢
    obtain ⟨rfl, hw⟩ := hw
    refine vx_catch (own := RL) (name := "java/util/NoSuchElementException") hown [] ⟨0, 10, 13, 31⟩ [] (hTb.trans rfl) (fun z hz => nomatch hz) (by decide) (by decide) (hts _ qaJV) (va_Nw.use rfl (hY.2.2.2.1.2 _ (List.mem_of_getElem? (i := 1) rfl))) hc9 hv9 hcl9 ?_
    refine lv_astore (lv' := [(4, .ref qx9), (0, .ref a0), (1, .int p1), (2, .int p2), (3, .ref a3)]) hx hb (qaa qsj 9 rfl) hl (by decide) rfl (fun ls hl => ?_)
    refine lv_iconst (v := 1) hx hb (qaa qsj 10 rfl) (by decide) ?_
    exact (W.widen (k := 2) (n := 12) (nbq rfl) (nbq rfl) (W.iret (v := 1) hx hb hr (fun t ht hW => ⟨⟨1, (x1, f2, f4, f3), rfl, hw, by rw [ht]; exact hP, va_K.moved hW.alike hK, hD⟩, hS.F ht⟩) hS.2.2 (qaa qsj 11 rfl)))
  obtain ⟨x1, f2, f4⟩ := u
  obtain ⟨hP1, hK1, hD1⟩ := hB
  rw [ht] at hP1
  obtain ⟨hP, hD⟩ := va_join (wr := [(a3, .inl (cyJ, n3, .inr (.inl f3)))]) (w1 := (qaYd a0 jaK jaR ja1 jb6 jbc jbV ja3 jbH jaT jbO jaq jac jbI jbl jbn jba jaa x1 jdD jaR jbs jbt jbo jbp jbk jbj jbf jbq jbE jbm jbi jcd jaT jbb jbr jaR jb6 jbb cyI jbQ jb6 jbW jbL jcl jcc jdh jcc cyI f2 jcl cyI f4 jbW cyI jdN jbL cyI jdi jbs cyI jci jbt cyI jcj)) hP hD [0, 1, 2, 3, 4, 5, 6, 7, 8, 9, 10] [11] rfl rfl (by decide) (by decide) hk1 hFc hP1 hD1
  have hP : va_P (dC, dI) vwCl (qMU a0 jaK jaR ja1 jb6 jbc jbV ja3 jbH jaT jbO jaq jac jbI jbl jbn jba jaa x1 jdD jaR jbs jbt jbo jbp jbk jbj jbf jbq jbE jbm jbi jcd jaT jbb jbr jaR jb6 jbb cyI jbQ jb6 jbW jbL jcl jcc jdh jcc cyI f2 jcl cyI f4 jbW cyI jdN jbL cyI jdi jbs cyI jci jbt cyI jcj a3 cyJ n3 f3) H1 := hP.sub [1, 2, 3, 4, 5, 6, 7, 8, 9, 10, 11, 0] rfl
  have hD : va_D A (qMU a0 jaK jaR ja1 jb6 jbc jbV ja3 jbH jaT jbO jaq jac jbI jbl jbn jba jaa x1 jdD jaR jbs jbt jbo jbp jbk jbj jbf jbq jbE jbm jbi jcd jaT jbb jbr jaR jb6 jbb cyI jbQ jb6 jbW jbL jcl jcc jdh jcc cyI f2 jcl cyI f4 jbW cyI jdN jbL cyI jdi jbs cyI jci jbt cyI jcj a3 cyJ n3 f3) := hD.sub [1, 2, 3, 4, 5, 6, 7, 8, 9, 10, 11, 0] (by decide) rfl
  generalize H1 = H at hP hS ⊢
  refine lv_i2l (v := r5.toInt64) hx hb (qaa qsj 6 rfl) rfl ?_
  refine lv_topl (fun x6 ex6 => ?_)
  have hw := hw x6 ex6
  obtain ⟨hi9, hw⟩ := hw
  refine va_last hx hb hK hP hD hS 11 2 rfl rfl hi9 (qaa qsj 7 rfl) (fun H locs hP hD hS => ?_)
  obtain ⟨f7, ef7⟩ : ∃ y : Nat → Int64, y = vp_updL f3 (0 : Int32).toNatClampNeg x6 := ⟨_, rfl⟩
  have hw := hw f7 ef7
  have hP : va_P (dC, dI) vwCl (qMU a0 jaK jaR ja1 jb6 jbc jbV ja3 jbH jaT jbO jaq jac jbI jbl jbn jba jaa x1 jdD jaR jbs jbt jbo jbp jbk jbj jbf jbq jbE jbm jbi jcd jaT jbb jbr jaR jb6 jbb cyI jbQ jb6 jbW jbL jcl jcc jdh jcc cyI f2 jcl cyI f4 jbW cyI jdN jbL cyI jdi jbs cyI jci jbt cyI jcj a3 cyJ n3 f7) H := by rw [ef7]; exact hP
  have hD : va_D A (qMU a0 jaK jaR ja1 jb6 jbc jbV ja3 jbH jaT jbO jaq jac jbI jbl jbn jba jaa x1 jdD jaR jbs jbt jbo jbp jbk jbj jbf jbq jbE jbm jbi jcd jaT jbb jbr jaR jb6 jbb cyI jbQ jb6 jbW jbL jcl jcc jdh jcc cyI f2 jcl cyI f4 jbW cyI jdN jbL cyI jdi jbs cyI jci jbt cyI jcj a3 cyJ n3 f7) := by rw [ef7]; exact hD
  refine lv_goto (tgt := 17) hx hb (qaa qsj 8 rfl) (by decide) ?_
  refine lv_iconst (v := 0) hx hb (qaa qsj 12 rfl) (by decide) ?_
  exact (W.widen (k := 2) (n := 12) (nbq rfl) (nbq rfl) (W.iret (v := 0) hx hb hr (fun t ht hW => ⟨⟨0, (x1, f2, f4, f7), rfl, hw, by rw [ht]; exact hP, va_K.moved hW.alike hK, hD⟩, hS.F ht⟩) hS.2.2 (qaa qsj 13 rfl)))
theorem qagX : ∀ w ∈ u_ws RX8 TX8 7, w ∈ wsX8_seesDigit := uiM qAG euX8 (by decide +kernel)
theorem qacb : (.fieldLink RX8 31 "MarchHares$Tape" "at" "I" : Cond) ∈ wsX8_seesDigit := qAG 713 (by decide +kernel)
set_option maxHeartbeats 4000000 in
set_option maxRecDepth 100000 in
theorem q1A (l : Launch) (dC : Nat → ClassId) (dI : Nat → Nat → Nat) (cyB cyI cyJ cyP : ClassId) (a0 jif sz : Nat) (jl9 jjY jmS jkr : Value) (jb7 : Int32) (jjA : NI) (jcP : Int32) {Q : Int32 → Int32 → Prop} (hw : qG8 jb7 jjA jcP Q) : Met l yX8_seesDigit wsX8_seesDigit ({ frames := 1, cells := 0, slots := 0, locals := 21 }) (va_Pc [.ref a0] (cPc (dC, dI) (kT cyB cyI cyJ cyP) (qJQ a0 jif jb7 jcP jl9 jjY jmS jkr jif cyB jjA) sz)) (va_Qi (fun (r u : Int32) => Q r u) (cB (dC, dI) (kT cyB cyI cyJ cyP) (va_A (qJQ a0 jif jb7 jcP jl9 jjY jmS jkr jif cyB jjA) sz) (fun u : Int32 => ((qJQ a0 jif jb7 u jl9 jjY jmS jkr jif cyB jjA) : va_W))) (va_A (qJQ a0 jif jb7 jcP jl9 jjY jmS jkr jif cyB jjA) sz)) 0 0 (va_A (qJQ a0 jif jb7 jcP jl9 jjY jmS jkr jif cyB jjA) sz) := by
  refine Met.ofW (cc := cX8_seesDigit) (maxL := 1) (ret := (some .boolean)) (by decide) rfl ?_
  intro p e s m args below meth c s₁ B hml hv
  obtain ⟨rfl, hsz, hP, hK, hD0, hNw⟩ := hv
  have hx := B.exec
  have hb := B.bytes
  have hr := B.returns
  have hts := atoms_spec (ws := wsX8_seesDigit) B.pre
  have hown : s.vm.findClass RX8 = some m.cls := findClass_of_methodNamed B.named
  have hlocks := B.notSynchronized
  subst hsz
  have hD := hD0.self (sz := s.heap.size)
  generalize hAe : va_A (qJQ a0 jif jb7 jcP jl9 jjY jmS jkr jif cyB jjA) s.heap.size = A at hD ⊢
  have hA : ∀ q : Nat, s.heap.size ≤ q → A q := fun q h => by rw [← hAe]; exact Or.inr h
  have hS : va_S A s.heap s.heap [] := va_S.rf
  have hP : va_P (dC, dI) vwCl (qJQ a0 jif jb7 jcP jl9 jjY jmS jkr jif cyB jjA) s.heap := hP
  have hl := lv_entry ([.ref a0]) (n := 1) (nbq rfl)
  rw [lg_entry_eq]
  generalize (lg_sl ([.ref a0]) ++ List.replicate (1 - (lg_sl ([.ref a0])).length) Slot.unset).toArray = ls at hl ⊢
  have hl : lv_has ls 1 [(0, .ref a0)] := hl
  have C0 : cfx p s m _ meth c cX8_seesDigit (some .boolean) wsX8_seesDigit RX8 1 A (dC, dI) (kT cyB cyI cyJ cyP) := ⟨hx, hb, hr, hts, hown, hlocks, hml, hA, hK, hNw⟩
  clear hAe
  obtain ⟨H, hH⟩ : ∃ H, H = s.heap := ⟨_, rfl⟩
  rw [← hH] at hP ⊢
  have hS : va_S A s.heap H [] := by rw [hH]; exact va_S.rf
  have hS := hS
  refine lv_aload_n hx hb (qaa qkG 0 rfl) rfl (lv_at hl 0 rfl) ?_
  obtain ⟨hCc, hPc, hDc, hFc⟩ := qac (ws' := (qJQ a0 jif jb7 jcP jl9 jjY jmS jkr jif cyB jjA)) hP hD hS hA [0, 1] (by decide +kernel) rfl
  refine va_callv (va_runV (As := []) (rest := []) ⟨hx, hb, hml, hown, hts⟩ (qws l dC dI cyB cyI cyJ cyP a0 jif H.size (jl9) (jjY) (jmS) (jkr) jb7 jjA jcP hw) (cwV 0 hts gX8_seesDigit_X8_skipBlanks rfl rfl rfl (by decide +kernel) ⟨nbq rfl, nbq rfl⟩) ⟨qab, va_recv (q := (RX8, TX8, 7)) hK hPc (ci := 8) (q0 := 0) rfl rfl, qae hPc hK hDc hNw⟩ rfl rfl hl.1 rfl (lv_room (nbq rfl)) (qaa qkG 1 rfl) ⟨nbq rfl, nbq rfl⟩) hS (fun q _ h => hFc q h) hFc (fun u t H1 locs ht hvm hw hB hz1 hk1 hS => ?_)
  obtain ⟨x1, rfl⟩ : ∃ z, z = u := ⟨_, rfl⟩
  obtain ⟨hP1, hK1, hD1⟩ := hB
  rw [ht] at hP1
  obtain ⟨hP, hD⟩ := qah (wr := []) (w1 := (qJQ a0 jif jb7 x1 jl9 jjY jmS jkr jif cyB jjA)) (wn := (qJQ a0 jif jb7 x1 jl9 jjY jmS jkr jif cyB jjA)) hP hD [0, 1] [] hCc rfl (by decide +kernel) (by decide +kernel) rfl hk1 hFc hP1 hD1
  generalize H1 = H at hP hS ⊢
  refine lv_aload_n hx hb (qaa qkG 2 rfl) rfl (lv_at hl 0 rfl) ?_
  refine lv_aload_n hx hb (qaa qkG 3 rfl) rfl (lv_at hl 0 rfl) ?_
  refine va_get (D := (dC, dI)) (ci := 8) (v := .int x1) (C := RX8) (T := TX8) (N := 7) hx hb hts qagX hown hK hP 0 rfl rfl 2 (by decide) (hts _ qacb) (fun _ h9 => h9) rfl (qaa qkG 4 rfl) ?_
  obtain ⟨hCc, hPc, hDc, hFc⟩ := qac (ws' := (qJQ a0 jif jb7 x1 jl9 jjY jmS jkr jif cyB jjA)) hP hD hS hA [0, 1] (by decide +kernel) rfl
  refine va_calli (va_runV (As := [.int x1]) (rest := []) ⟨hx, hb, hml, hown, hts⟩ (qOh l dC dI cyB cyI cyJ cyP a0 jif H.size (.int x1) (jl9) (jjY) (jmS) (jkr) jb7 jjA x1 hw) (cwV 1 hts gX8_seesDigit_X8_digitAt rfl rfl rfl (by decide +kernel) ⟨nbq rfl, nbq rfl⟩) ⟨qab, va_recv (q := (RX8, TX8, 7)) hK hPc (ci := 8) (q0 := 0) rfl rfl, qae hPc hK hDc hNw⟩ rfl rfl hl.1 rfl (lv_room (nbq rfl)) (qaa qkG 5 rfl) ⟨nbq rfl, nbq rfl⟩) hS (fun q _ h => hFc q h) hFc (fun r2 u t H1 locs ht hvm hw hB hz1 hk1 hS => ?_)
  obtain ⟨hP1, hK1, hD1⟩ := hB
  rw [ht] at hP1
  obtain ⟨hP, hD⟩ := qah (wr := []) (w1 := (qJQ a0 jif jb7 x1 jl9 jjY jmS jkr jif cyB jjA)) (wn := (qJQ a0 jif jb7 x1 jl9 jjY jmS jkr jif cyB jjA)) hP hD [0, 1] [] hCc rfl (by decide +kernel) (by decide +kernel) rfl hk1 hFc hP1 hD1
  generalize H1 = H at hP hS ⊢
  refine lv_if_lt (tgt := 19) hx hb (qaa qkG 6 rfl) (by decide) (fun c3 => ?_) (fun c3 => ?_)
  · have hw := hw.1 c3
    refine lv_iconst (v := 0) hx hb (qaa qkG 9 rfl) (by decide) ?_
    exact ((W.zret (v := 0) hx hb hr rfl (fun t ht hW => ⟨⟨0, (x1), rfl, hw, by rw [ht]; exact hP, va_K.moved hW.alike hK, hD⟩, hS.F ht⟩) hS.2.2 (qaa qkG 10 rfl)))
  · have hw := hw.2 c3
    refine lv_iconst (v := 1) hx hb (qaa qkG 7 rfl) (by decide) ?_
    refine lv_goto (tgt := 20) hx hb (qaa qkG 8 rfl) (by decide) ?_
    exact ((W.zret (v := 1) hx hb hr rfl (fun t ht hW => ⟨⟨1, (x1), rfl, hw, by rw [ht]; exact hP, va_K.moved hW.alike hK, hD⟩, hS.F ht⟩) hS.2.2 (qaa qkG 10 rfl)))
set_option maxHeartbeats 4000000 in
set_option maxRecDepth 100000 in
theorem qaJj (l : Launch) (dC : Nat → ClassId) (dI : Nat → Nat → Nat) (cyB cyI cyJ cyP : ClassId) (a0 jif sz : Nat) (jl9 jjY : Value) (jb7 : Int32) (jjA : NI) (jcP jkC jj3 : Int32) {Q : Int32 → Int32 → Int32 → Prop} (hw : qUJ jb7 jjA jcP jkC jj3 Q) : Met l yX8_needsEnd wsX8_needsEnd ({ frames := 2, cells := 0, slots := 0, locals := 42 }) (va_Pc [.ref a0] (cPc (dC, dI) (kT cyB cyI cyJ cyP) (qJR a0 jif jb7 jcP jl9 jjY jkC jj3 jif cyB jjA) sz)) (va_Qv (fun (u : Int32 × Int32 × Int32) => Q u.1 u.2.1 u.2.2) (cB (dC, dI) (kT cyB cyI cyJ cyP) (va_A (qJR a0 jif jb7 jcP jl9 jjY jkC jj3 jif cyB jjA) sz) (fun u : Int32 × Int32 × Int32 => ((qJR a0 jif jb7 u.1 jl9 jjY u.2.1 u.2.2 jif cyB jjA) : va_W))) (va_A (qJR a0 jif jb7 jcP jl9 jjY jkC jj3 jif cyB jjA) sz)) 0 0 (va_A (qJR a0 jif jb7 jcP jl9 jjY jkC jj3 jif cyB jjA) sz) := by
  refine Met.ofW (cc := cX8_needsEnd) (maxL := 1) (ret := none) (by decide) rfl ?_
  intro p e s m args below meth c s₁ B hml hv
  obtain ⟨rfl, hsz, hP, hK, hD0, hNw⟩ := hv
  have hx := B.exec
  have hb := B.bytes
  have hr := B.returns
  have hts := atoms_spec (ws := wsX8_needsEnd) B.pre
  have hown : s.vm.findClass RX8 = some m.cls := findClass_of_methodNamed B.named
  have hlocks := B.notSynchronized
  subst hsz
  have hD := hD0.self (sz := s.heap.size)
  generalize hAe : va_A (qJR a0 jif jb7 jcP jl9 jjY jkC jj3 jif cyB jjA) s.heap.size = A at hD ⊢
  have hA : ∀ q : Nat, s.heap.size ≤ q → A q := fun q h => by rw [← hAe]; exact Or.inr h
  have hS : va_S A s.heap s.heap [] := va_S.rf
  have hP : va_P (dC, dI) vwCl (qJR a0 jif jb7 jcP jl9 jjY jkC jj3 jif cyB jjA) s.heap := hP
  have hl := lv_entry ([.ref a0]) (n := 1) (nbq rfl)
  rw [lg_entry_eq]
  generalize (lg_sl ([.ref a0]) ++ List.replicate (1 - (lg_sl ([.ref a0])).length) Slot.unset).toArray = ls at hl ⊢
  have hl : lv_has ls 1 [(0, .ref a0)] := hl
  have C0 : cfx p s m _ meth c cX8_needsEnd none wsX8_needsEnd RX8 1 A (dC, dI) (kT cyB cyI cyJ cyP) := ⟨hx, hb, hr, hts, hown, hlocks, hml, hA, hK, hNw⟩
  clear hAe
  obtain ⟨H, hH⟩ : ∃ H, H = s.heap := ⟨_, rfl⟩
  rw [← hH] at hP ⊢
  have hS : va_S A s.heap H [] := by rw [hH]; exact va_S.rf
  have hS := hS
  refine lv_aload_n hx hb (qaa quH 0 rfl) rfl (lv_at hl 0 rfl) ?_
  obtain ⟨hCc, hPc, hDc, hFc⟩ := qac (ws' := (qJR a0 jif jb7 jcP jl9 jjY jkC jj3 jif cyB jjA)) hP hD hS hA [0, 1] (by decide +kernel) rfl
  refine va_calli (va_runV (As := []) (rest := []) ⟨hx, hb, hml, hown, hts⟩ (qN0 l dC dI cyB cyI cyJ cyP a0 jif H.size (jl9) (jjY) (.int jkC) (.int jj3) jb7 jjA jcP hw) (cwV 0 hts gX8_needsEnd_X8_isEnded rfl rfl rfl (by decide +kernel) ⟨nbq rfl, nbq rfl⟩) ⟨qab, va_recv (q := (RX8, TX8, 7)) hK hPc (ci := 8) (q0 := 0) rfl rfl, qae hPc hK hDc hNw⟩ rfl rfl hl.1 rfl (lv_room (nbq rfl)) (qaa quH 1 rfl) ⟨nbq rfl, nbq rfl⟩) hS (fun q _ h => hFc q h) hFc (fun r2 u t H1 locs ht hvm hw hB hz1 hk1 hS => ?_)
  obtain ⟨x1, rfl⟩ : ∃ z, z = u := ⟨_, rfl⟩
  obtain ⟨hP1, hK1, hD1⟩ := hB
  rw [ht] at hP1
  obtain ⟨hP, hD⟩ := qah (wr := []) (w1 := (qJR a0 jif jb7 x1 jl9 jjY jkC jj3 jif cyB jjA)) (wn := (qJR a0 jif jb7 x1 jl9 jjY jkC jj3 jif cyB jjA)) hP hD [0, 1] [] hCc rfl (by decide +kernel) (by decide +kernel) rfl hk1 hFc hP1 hD1
  generalize H1 = H at hP hS ⊢
  refine lv_if_ne (tgt := 11) hx hb (qaa quH 2 rfl) (by decide) (fun c3 => ?_) (fun c3 => ?_)
  · have hw := hw.1 c3
    exact ((W.vret hx hb hr (fun t ht hW => ⟨⟨(x1, jkC, jj3), rfl, hw, by rw [ht]; exact hP, va_K.moved hW.alike hK, hD⟩, hS.F ht⟩) hS.2.2 (qaa quH 5 rfl)))
  · have hw := hw.2 c3
    refine lv_aload_n hx hb (qaa quH 3 rfl) rfl (lv_at hl 0 rfl) ?_
    obtain ⟨hCc, hPc, hDc, hFc⟩ := qac (ws' := (qJR a0 jif jb7 x1 jl9 jjY jkC jj3 jif cyB jjA)) hP hD hS hA [0, 1] (by decide +kernel) rfl
    refine va_callv (va_runV (As := []) (rest := []) ⟨hx, hb, hml, hown, hts⟩ (qCr l dC dI cyB cyI cyJ cyP a0 jif H.size (jl9) (jjY) jb7 jjA x1 jkC jj3 hw) (cwV 0 hts gX8_needsEnd_X8_blameSign rfl rfl rfl (by decide +kernel) ⟨nbq rfl, nbq rfl⟩) ⟨qab, va_recv (q := (RX8, TX8, 7)) hK hPc (ci := 8) (q0 := 0) rfl rfl, qae hPc hK hDc hNw⟩ rfl rfl hl.1 rfl (lv_room (nbq rfl)) (qaa quH 4 rfl) ⟨nbq rfl, nbq rfl⟩) hS (fun q _ h => hFc q h) hFc (fun u t H1 locs ht hvm hw hB hz1 hk1 hS => ?_)
    obtain ⟨x4, x5, x6⟩ := u
    obtain ⟨hP1, hK1, hD1⟩ := hB
    rw [ht] at hP1
    obtain ⟨hP, hD⟩ := qah (wr := []) (w1 := (qJR a0 jif jb7 x4 jl9 jjY x5 x6 jif cyB jjA)) (wn := (qJR a0 jif jb7 x4 jl9 jjY x5 x6 jif cyB jjA)) hP hD [0, 1] [] hCc rfl (by decide +kernel) (by decide +kernel) rfl hk1 hFc hP1 hD1
    generalize H1 = H at hP hS ⊢
    exact ((W.vret hx hb hr (fun t ht hW => ⟨⟨(x4, x5, x6), rfl, hw, by rw [ht]; exact hP, va_K.moved hW.alike hK, hD⟩, hS.F ht⟩) hS.2.2 (qaa quH 5 rfl)))
theorem qaPc : ∀ w ∈ u_ws RX1 TX1 4, w ∈ wsX1_obey := uiM qaUz qWc (by decide +kernel)
theorem qaG1 : (.fieldLink RX1 28 "MarchHares$Days" "law" "LMarchHares$Law;" : Cond) ∈ wsX1_obey := qaUz 323 (by decide +kernel)
set_option maxHeartbeats 4000000 in
set_option maxRecDepth 100000 in
theorem qa1O (l : Launch) (dC : Nat → ClassId) (dI : Nat → Nat → Nat) (cyB cyI cyJ cyP : ClassId) (a0 a1 sz : Nat) (jmX jcD ji6 jo9 : Value) {Q : Prop} (hw : qaMb Q) : Met l yX1_obey wsX1_obey ({ frames := 0, cells := 0, slots := 0, locals := 0 }) (va_Pc [.ref a0, .ref a1] (cPc (dC, dI) (kT cyB cyI cyJ cyP) (qalY a0 jmX jcD ji6 jo9) sz)) (va_Qv (fun (_ : Unit) => Q ) (cB (dC, dI) (kT cyB cyI cyJ cyP) (va_A (qalY a0 jmX jcD ji6 jo9) sz) (fun u : Unit => ((qaWB a0 jmX jcD ji6 a1) : va_W))) (va_A (qalY a0 jmX jcD ji6 jo9) sz)) 0 0 (va_A (qalY a0 jmX jcD ji6 jo9) sz) := by
  refine Met.ofW (cc := cX1_obey) (maxL := 2) (ret := none) (by decide) rfl ?_
  intro p e s m args below meth c s₁ B hml hv
  obtain ⟨rfl, hsz, hP, hK, hD0, hNw⟩ := hv
  have hx := B.exec
  have hb := B.bytes
  have hr := B.returns
  have hts := atoms_spec (ws := wsX1_obey) B.pre
  have hown : s.vm.findClass RX1 = some m.cls := findClass_of_methodNamed B.named
  have hlocks := B.notSynchronized
  subst hsz
  have hD := hD0.self (sz := s.heap.size)
  generalize hAe : va_A (qalY a0 jmX jcD ji6 jo9) s.heap.size = A at hD ⊢
  have hA : ∀ q : Nat, s.heap.size ≤ q → A q := fun q h => by rw [← hAe]; exact Or.inr h
  have hS : va_S A s.heap s.heap [] := va_S.rf
  have hP : va_P (dC, dI) vwCl (qalY a0 jmX jcD ji6 jo9) s.heap := hP
  have hl := lv_entry ([.ref a0, .ref a1]) (n := 2) (nbq rfl)
  rw [lg_entry_eq]
  generalize (lg_sl ([.ref a0, .ref a1]) ++ List.replicate (2 - (lg_sl ([.ref a0, .ref a1])).length) Slot.unset).toArray = ls at hl ⊢
  have hl : lv_has ls 2 [(0, .ref a0), (1, .ref a1)] := hl
  have C0 : cfx p s m _ meth c cX1_obey none wsX1_obey RX1 2 A (dC, dI) (kT cyB cyI cyJ cyP) := ⟨hx, hb, hr, hts, hown, hlocks, hml, hA, hK, hNw⟩
  clear hAe
  obtain ⟨H, hH⟩ : ∃ H, H = s.heap := ⟨_, rfl⟩
  rw [← hH] at hP ⊢
  have hS : va_S A s.heap H [] := by rw [hH]; exact va_S.rf
  have hS := hS
  refine lv_aload_n hx hb (qaa qRI 0 rfl) rfl (lv_at hl 0 rfl) ?_
  refine lv_aload_n hx hb (qaa qRI 1 rfl) rfl (lv_at hl 1 rfl) ?_
  refine va_put (D := (dC, dI)) (ci := 1) (v := .ref a1) (ty := .object "MarchHares$Law") (C := RX1) (T := TX1) (N := 4) hx hb hts qaPc tyX1 tyX1_ok nmX1 hown hK hP hD hS 0 rfl rfl 3 (by decide) (hts _ qaG1) (fun _ h9 => h9) rfl (by decide +kernel) rfl rfl (nbq rfl) (qaa qRI 2 rfl) (fun H locs hP hD hS => ?_)
  have hP : va_P (dC, dI) vwCl (qaWB a0 jmX jcD ji6 a1) H := hP
  have hD : va_D A (qaWB a0 jmX jcD ji6 a1) := hD
  exact ((W.vret hx hb hr (fun t ht hW => ⟨⟨(), rfl, hw, by rw [ht]; exact hP, va_K.moved hW.alike hK, hD⟩, hS.F ht⟩) hS.2.2 (qaa qRI 3 rfl)))
theorem qZD : ∀ w ∈ u_ws RX3 TX3 11, w ∈ wsX3_tallied := uiM qLh euX3 (by decide +kernel)
theorem qVv : (.fieldLink RX3 21 "MarchHares$Fitting" "tally" "[I" : Cond) ∈ wsX3_tallied := qLh 393 (by decide +kernel)
theorem q0z : (.initialized RX10 : Cond) ∈ wsX3_tallied := qLh 2 (by decide +kernel)
theorem qRA : (.static yX10_within : Cond) ∈ wsX3_tallied := qLh 658 (by decide +kernel)
set_option maxHeartbeats 4000000 in
set_option maxRecDepth 100000 in
theorem qaOh (l : Launch) (dC : Nat → ClassId) (dI : Nat → Nat → Nat) (cyB cyI cyJ cyP : ClassId) (a0 jlj sz : Nat) (jmf jpq jlU ja4 ja0 jaO jmb jmc jkn jjZ : Value) (jly : NI) (p1 : Int32) {Q : Int32 → NI → Prop} (hw : qWT jly p1 Q) : Met l yX3_tallied wsX3_tallied ({ frames := 1, cells := 0, slots := 0, locals := 22 }) (va_Pc [.ref a0, .int p1] (cPc (dC, dI) (kT cyB cyI cyJ cyP) (qQ8 a0 jmf jpq jlU jlj ja4 ja0 jaO jmb jmc jkn jjZ jlj cyI jly) sz)) (va_Qi (fun (r : Int32) (u : NI) => Q r u) (cB (dC, dI) (kT cyB cyI cyJ cyP) (va_A (qQ8 a0 jmf jpq jlU jlj ja4 ja0 jaO jmb jmc jkn jjZ jlj cyI jly) sz) (fun u : NI => ((qQ8 a0 jmf jpq jlU jlj ja4 ja0 jaO jmb jmc jkn jjZ jlj cyI u) : va_W))) (va_A (qQ8 a0 jmf jpq jlU jlj ja4 ja0 jaO jmb jmc jkn jjZ jlj cyI jly) sz)) 0 0 (va_A (qQ8 a0 jmf jpq jlU jlj ja4 ja0 jaO jmb jmc jkn jjZ jlj cyI jly) sz) := by
  refine Met.ofW (cc := cX3_tallied) (maxL := 2) (ret := (some .int)) (by decide) rfl ?_
  intro p e s m args below meth c s₁ B hml hv
  obtain ⟨rfl, hsz, hP, hK, hD0, hNw⟩ := hv
  have hx := B.exec
  have hb := B.bytes
  have hr := B.returns
  have hts := atoms_spec (ws := wsX3_tallied) B.pre
  have hown : s.vm.findClass RX3 = some m.cls := findClass_of_methodNamed B.named
  have hlocks := B.notSynchronized
  subst hsz
  have hD := hD0.self (sz := s.heap.size)
  generalize hAe : va_A (qQ8 a0 jmf jpq jlU jlj ja4 ja0 jaO jmb jmc jkn jjZ jlj cyI jly) s.heap.size = A at hD ⊢
  have hA : ∀ q : Nat, s.heap.size ≤ q → A q := fun q h => by rw [← hAe]; exact Or.inr h
  have hS : va_S A s.heap s.heap [] := va_S.rf
  have hP : va_P (dC, dI) vwCl (qQ8 a0 jmf jpq jlU jlj ja4 ja0 jaO jmb jmc jkn jjZ jlj cyI jly) s.heap := hP
  have hl := lv_entry ([.ref a0, .int p1]) (n := 2) (nbq rfl)
  rw [lg_entry_eq]
  generalize (lg_sl ([.ref a0, .int p1]) ++ List.replicate (2 - (lg_sl ([.ref a0, .int p1])).length) Slot.unset).toArray = ls at hl ⊢
  have hl : lv_has ls 2 [(0, .ref a0), (1, .int p1)] := hl
  have C0 : cfx p s m _ meth c cX3_tallied (some .int) wsX3_tallied RX3 2 A (dC, dI) (kT cyB cyI cyJ cyP) := ⟨hx, hb, hr, hts, hown, hlocks, hml, hA, hK, hNw⟩
  clear hAe
  obtain ⟨H, hH⟩ : ∃ H, H = s.heap := ⟨_, rfl⟩
  rw [← hH] at hP ⊢
  have hS : va_S A s.heap H [] := by rw [hH]; exact va_S.rf
  have hS := hS
  refine lv_iload_n hx hb (qaa qhF 0 rfl) rfl (lv_at hl 1 rfl) ?_
  refine lv_iconst (v := 0) hx hb (qaa qhF 1 rfl) (by decide) ?_
  refine lv_bipush (v := 6) hx hb (qaa qhF 2 rfl) (by decide) ?_
  obtain ⟨hCc, hPc, hDc, hFc⟩ := qac (ws' := []) hP hD hS hA [] (by decide +kernel) rfl
  refine va_calli (va_runSN (As := [.int p1, .int 0, .int 6]) (rest := []) ⟨hx, hb, hml, hown, hts⟩ (qzC l dC dI cyB cyI cyJ cyP H.size p1 0 6 hw) ⟨(va_cnB 3 hts gX3_tallied_X10_within_n106 rfl rfl rfl (qbmk hNw) (hts _ q0z) (by decide +kernel) ⟨nbq rfl, nbq rfl⟩), (hts _ qRA), trivial⟩ ⟨qab, qae hPc hK hDc hNw⟩ rfl rfl hl.1 rfl (lv_room (nbq rfl)) (qaa qhF 3 rfl) ⟨nbq rfl, nbq rfl⟩) hS (fun q _ h => hFc q h) hFc (fun r1 u t H1 locs ht hvm hw hB hz1 hk1 hS => ?_)
  obtain ⟨hP1, hK1, hD1⟩ := hB
  rw [ht] at hP1
  obtain ⟨hP, hD⟩ := qah (wr := (qQ8 a0 jmf jpq jlU jlj ja4 ja0 jaO jmb jmc jkn jjZ jlj cyI jly)) (w1 := []) (wn := (qQ8 a0 jmf jpq jlU jlj ja4 ja0 jaO jmb jmc jkn jjZ jlj cyI jly)) hP hD [] [0, 1] hCc rfl (by decide +kernel) (by decide +kernel) rfl hk1 hFc hP1 hD1
  generalize H1 = H at hP hS ⊢
  refine lv_if_ne (tgt := 12) hx hb (qaa qhF 4 rfl) (by decide) (fun c2 => ?_) (fun c2 => ?_)
  · have hw := hw.1 c2
    refine lv_aload_n hx hb (qaa qhF 7 rfl) rfl (lv_at hl 0 rfl) ?_
    refine va_get (D := (dC, dI)) (ci := 3) (v := .ref jlj) (C := RX3) (T := TX3) (N := 11) hx hb hts qZD hown hK hP 0 rfl rfl 3 (by decide) (hts _ qVv) (fun _ h9 => h9) rfl (qaa qhF 8 rfl) ?_
    refine lv_iload_n hx hb (qaa qhF 9 rfl) rfl (lv_at hl 1 rfl) ?_
    refine lv_dup2_11 hx hb (qaa qhF 10 rfl) rfl rfl ?_
    obtain ⟨hi9, hw⟩ := hw
    refine va_iald hx hb hK hP 1 1 rfl rfl hi9 (qaa qhF 11 rfl) ?_
    refine lv_topi (fun x3 ex3 => ?_)
    have hw := hw x3 ex3
    refine lv_iconst (v := 1) hx hb (qaa qhF 12 rfl) (by decide) ?_
    refine lv_iadd hx hb (qaa qhF 13 rfl) ?_
    refine lv_topi (fun x4 ex4 => ?_)
    have hw := hw x4 ex4
    obtain ⟨hi9, hw⟩ := hw
    refine va_iast hx hb hK hP hD hS 1 1 rfl rfl hi9 (qaa qhF 14 rfl) (fun H locs hP hD hS => ?_)
    obtain ⟨f5, ef5⟩ : ∃ y : NI, y = upd jly p1.toNatClampNeg x4 := ⟨_, rfl⟩
    have hw := hw f5 ef5
    have hP : va_P (dC, dI) vwCl (qQ8 a0 jmf jpq jlU jlj ja4 ja0 jaO jmb jmc jkn jjZ jlj cyI f5) H := by rw [ef5]; exact hP
    have hD : va_D A (qQ8 a0 jmf jpq jlU jlj ja4 ja0 jaO jmb jmc jkn jjZ jlj cyI f5) := by rw [ef5]; exact hD
    refine lv_aload_n hx hb (qaa qhF 15 rfl) rfl (lv_at hl 0 rfl) ?_
    refine va_get (D := (dC, dI)) (ci := 3) (v := .ref jlj) (C := RX3) (T := TX3) (N := 11) hx hb hts qZD hown hK hP 0 rfl rfl 3 (by decide) (hts _ qVv) (fun _ h9 => h9) rfl (qaa qEI 0 rfl) ?_
    refine lv_iload_n hx hb (qaa qEI 1 rfl) rfl (lv_at hl 1 rfl) ?_
    obtain ⟨hi9, hw⟩ := hw
    refine va_iald hx hb hK hP 1 1 rfl rfl hi9 (qaa qEI 2 rfl) ?_
    refine lv_topi (fun x6 ex6 => ?_)
    have hw := hw x6 ex6
    exact ((W.iret (v := x6) hx hb hr (fun t ht hW => ⟨⟨x6, (f5), rfl, hw, by rw [ht]; exact hP, va_K.moved hW.alike hK, hD⟩, hS.F ht⟩) hS.2.2 (qaa qEI 3 rfl)))
  · have hw := hw.2 c2
    refine lv_iconst (v := 0) hx hb (qaa qhF 5 rfl) (by decide) ?_
    exact ((W.iret (v := 0) hx hb hr (fun t ht hW => ⟨⟨0, (jly), rfl, hw, by rw [ht]; exact hP, va_K.moved hW.alike hK, hD⟩, hS.F ht⟩) hS.2.2 (qaa qhF 6 rfl)))
theorem qER : ∀ w ∈ u_ws RX3 TX3 11, w ∈ wsX3_worstAt := uiM qoz euX3 (by decide +kernel)
theorem qai1 : (.fieldLink RX3 18 "MarchHares$Fitting" "fittingForms" "[I" : Cond) ∈ wsX3_worstAt := qoz 392 (by decide +kernel)
theorem qaj3 : (.fieldLink RX3 21 "MarchHares$Fitting" "tally" "[I" : Cond) ∈ wsX3_worstAt := qoz 393 (by decide +kernel)
theorem qajH : (.fieldLink RX3 36 "MarchHares$Fitting" "hares" "I" : Cond) ∈ wsX3_worstAt := qoz 3472 (by decide +kernel)
theorem qal6 : (.fieldLink RX3 40 "MarchHares$Fitting" "forms" "I" : Cond) ∈ wsX3_worstAt := qoz 3474 (by decide +kernel)
theorem q2L : (.initialized RX10 : Cond) ∈ wsX3_worstAt := qoz 2 (by decide +kernel)
theorem qaeC : (.initialized "java/lang/Math" : Cond) ∈ wsX3_worstAt := qoz 651 (by decide +kernel)
theorem qagw : (.methodLink RX3 100 Lib.Math.max.name : Cond) ∈ wsX3_worstAt := qoz 3650 (by decide +kernel)
theorem q9D : (.code Lib.Math.max.name Lib.Math.max.code 2 (some .int) : Cond) ∈ wsX3_worstAt := qoz 1931 (by decide +kernel)
theorem qacl : (.static Lib.Math.max.name : Cond) ∈ wsX3_worstAt := qoz 1930 (by decide +kernel)
theorem qUb : (.static yX10_holds : Cond) ∈ wsX3_worstAt := qoz 2052 (by decide +kernel)
set_option maxHeartbeats 4000000 in
set_option maxRecDepth 100000 in
theorem qZB {p : Program} {l : Launch} {e : Env} {s : State} {m : MethodId} {args : Array Value} {below : List Frame} {meth : Method} {c : Code} {A : Nat → Prop} (dC : Nat → ClassId) (dI : Nat → Nat → Nat) (cyB cyI cyJ cyP : ClassId) (a0 jlj jhn jhY ji2 : Nat) (jaO jmb jmc jkn jjZ : Value) (jaC jaN : Int32) (jim jiL jjH : NI) (Q : Int32 → NI → Prop) (K25 : NI → Int32 → Int32 → Int32 → Prop) (K36 : NI → Int32 → Int32 → Int32 → Int32 → Prop) (hK25 : ∀ (H : Heap) (locs : List Loc) (ls : Array Slot) (jly : NI) (l1 l2 l3 : Int32), va_P (dC, dI) vwCl (qpN a0 jhY ji2 jhn jlj jaC jaN jaO jmb jmc jkn jjZ jlj cyI jly jhn cyI jim jhY cyI jiL ji2 cyI jjH) H → va_D A (qpN a0 jhY ji2 jhn jlj jaC jaN jaO jmb jmc jkn jjZ jlj cyI jly jhn cyI jim jhY cyI jiL ji2 cyI jjH) → va_S A s.heap H locs → lv_has ls 5 [(0, .ref a0), (1, .int l1), (2, .int l2), (3, .int l3)] → K25 jly l1 l2 l3 → W p l e (headSpec wsX3_worstAt ({ frames := 2, cells := 0, slots := 0, locals := 43 })).room s m args below meth c H locs 0 0 (MQ below (va_Qi (fun (r : Int32) (u : NI) => Q r u) (cB (dC, dI) (kT cyB cyI cyJ cyP) A (fun u : NI => ((qpN a0 jhY ji2 jhn jlj jaC jaN jaO jmb jmc jkn jjZ jlj cyI u jhn cyI jim jhY cyI jiL ji2 cyI jjH) : va_W))) A) args s 0 0 A) (F0 m 25 ls [])) (hK36 : ∀ (H : Heap) (locs : List Loc) (ls : Array Slot) (jly : NI) (l1 l2 l3 l4 : Int32), va_P (dC, dI) vwCl (qpN a0 jhY ji2 jhn jlj jaC jaN jaO jmb jmc jkn jjZ jlj cyI jly jhn cyI jim jhY cyI jiL ji2 cyI jjH) H → va_D A (qpN a0 jhY ji2 jhn jlj jaC jaN jaO jmb jmc jkn jjZ jlj cyI jly jhn cyI jim jhY cyI jiL ji2 cyI jjH) → va_S A s.heap H locs → lv_has ls 5 [(0, .ref a0), (1, .int l1), (2, .int l2), (3, .int l3), (4, .int l4)] → K36 jly l1 l2 l3 l4 → W p l e (headSpec wsX3_worstAt ({ frames := 2, cells := 0, slots := 0, locals := 43 })).room s m args below meth c H locs 0 0 (MQ below (va_Qi (fun (r : Int32) (u : NI) => Q r u) (cB (dC, dI) (kT cyB cyI cyJ cyP) A (fun u : NI => ((qpN a0 jhY ji2 jhn jlj jaC jaN jaO jmb jmc jkn jjZ jlj cyI u jhn cyI jim jhY cyI jiL ji2 cyI jjH) : va_W))) A) args s 0 0 A) (F0 m 36 ls [])) (C0 : cfx p s m args meth c cX3_worstAt (some .int) wsX3_worstAt RX3 5 A (dC, dI) (kT cyB cyI cyJ cyP)) : ∀ (H : Heap) (locs : List Loc) (ls : Array Slot) (jly : NI) (l1 l2 l3 l4 : Int32), va_P (dC, dI) vwCl (qpN a0 jhY ji2 jhn jlj jaC jaN jaO jmb jmc jkn jjZ jlj cyI jly jhn cyI jim jhY cyI jiL ji2 cyI jjH) H → va_D A (qpN a0 jhY ji2 jhn jlj jaC jaN jaO jmb jmc jkn jjZ jlj cyI jly jhn cyI jim jhY cyI jiL ji2 cyI jjH) → va_S A s.heap H locs → lv_has ls 5 [(0, .ref a0), (1, .int l1), (2, .int l2), (3, .int l3), (4, .int l4)] → qM3 jaC jaN jim jiL jjH Q K25 K36 jly l1 l2 l3 l4 → W p l e (headSpec wsX3_worstAt ({ frames := 2, cells := 0, slots := 0, locals := 43 })).room s m args below meth c H locs 0 0 (MQ below (va_Qi (fun (r : Int32) (u : NI) => Q r u) (cB (dC, dI) (kT cyB cyI cyJ cyP) A (fun u : NI => ((qpN a0 jhY ji2 jhn jlj jaC jaN jaO jmb jmc jkn jjZ jlj cyI u jhn cyI jim jhY cyI jiL ji2 cyI jjH) : va_W))) A) args s 0 0 A) (F0 m 76 ls []) := by
  obtain ⟨hx, hb, hr, hts, hown, hlocks, hml, hA, hK, hNw⟩ := id C0
  intro H locs ls jly l1 l2 l3 l4 hP hD hS hl hw
  obtain ⟨x14, ex14⟩ : ∃ y : Int32, y = l4 + 1 := ⟨_, rfl⟩
  have hw := hw x14 ex14
  refine lv_iinc (v := x14) (lv' := [(4, .int x14), (0, .ref a0), (1, .int l1), (2, .int l2), (3, .int l3)]) hx hb (qaa qfO 11 rfl) hl (k := 4) rfl (by rw [ex14]; rfl) (by decide) rfl (fun ls hl => ?_)
  refine lv_goto (tgt := 36) hx hb (qaa qfO 12 rfl) (by decide) ?_
  exact hK36 _ _ _ jly l1 l2 l3 x14 hP hD hS (lv_sub hl [1, 2, 3, 4, 0] rfl) hw
set_option maxHeartbeats 4000000 in
set_option maxRecDepth 100000 in
theorem qatI {p : Program} {l : Launch} {e : Env} {s : State} {m : MethodId} {args : Array Value} {below : List Frame} {meth : Method} {c : Code} {A : Nat → Prop} (dC : Nat → ClassId) (dI : Nat → Nat → Nat) (cyB cyI cyJ cyP : ClassId) (a0 jlj jhn jhY ji2 : Nat) (jaO jmb jmc jkn jjZ : Value) (jaC jaN : Int32) (jim jiL jjH : NI) (Q : Int32 → NI → Prop) (K25 : NI → Int32 → Int32 → Int32 → Prop) (hK25 : ∀ (H : Heap) (locs : List Loc) (ls : Array Slot) (jly : NI) (l1 l2 l3 : Int32), va_P (dC, dI) vwCl (qpN a0 jhY ji2 jhn jlj jaC jaN jaO jmb jmc jkn jjZ jlj cyI jly jhn cyI jim jhY cyI jiL ji2 cyI jjH) H → va_D A (qpN a0 jhY ji2 jhn jlj jaC jaN jaO jmb jmc jkn jjZ jlj cyI jly jhn cyI jim jhY cyI jiL ji2 cyI jjH) → va_S A s.heap H locs → lv_has ls 5 [(0, .ref a0), (1, .int l1), (2, .int l2), (3, .int l3)] → K25 jly l1 l2 l3 → W p l e (headSpec wsX3_worstAt ({ frames := 2, cells := 0, slots := 0, locals := 43 })).room s m args below meth c H locs 0 0 (MQ below (va_Qi (fun (r : Int32) (u : NI) => Q r u) (cB (dC, dI) (kT cyB cyI cyJ cyP) A (fun u : NI => ((qpN a0 jhY ji2 jhn jlj jaC jaN jaO jmb jmc jkn jjZ jlj cyI u jhn cyI jim jhY cyI jiL ji2 cyI jjH) : va_W))) A) args s 0 0 A) (F0 m 25 ls [])) (C0 : cfx p s m args meth c cX3_worstAt (some .int) wsX3_worstAt RX3 5 A (dC, dI) (kT cyB cyI cyJ cyP)) : ∀ (n : Nat) (H : Heap) (locs : List Loc) (ls : Array Slot) (jly : NI) (l1 l2 l3 l4 : Int32), va_P (dC, dI) vwCl (qpN a0 jhY ji2 jhn jlj jaC jaN jaO jmb jmc jkn jjZ jlj cyI jly jhn cyI jim jhY cyI jiL ji2 cyI jjH) H → va_D A (qpN a0 jhY ji2 jhn jlj jaC jaN jaO jmb jmc jkn jjZ jlj cyI jly jhn cyI jim jhY cyI jiL ji2 cyI jjH) → va_S A s.heap H locs → lv_has ls 5 [(0, .ref a0), (1, .int l1), (2, .int l2), (3, .int l3), (4, .int l4)] → quA jaC jaN jim jiL jjH Q K25 n jly l1 l2 l3 l4 → W p l e (headSpec wsX3_worstAt ({ frames := 2, cells := 0, slots := 0, locals := 43 })).room s m args below meth c H locs 0 0 (MQ below (va_Qi (fun (r : Int32) (u : NI) => Q r u) (cB (dC, dI) (kT cyB cyI cyJ cyP) A (fun u : NI => ((qpN a0 jhY ji2 jhn jlj jaC jaN jaO jmb jmc jkn jjZ jlj cyI u jhn cyI jim jhY cyI jiL ji2 cyI jjH) : va_W))) A) args s 0 0 A) (F0 m 36 ls []) := by
  obtain ⟨hx, hb, hr, hts, hown, hlocks, hml, hA, hK, hNw⟩ := id C0
  intro n
  induction n with
  | zero => intro H locs ls jly l1 l2 l3 l4 hP hD hS hl hw; exact False.elim hw
  | succ n ih =>
    intro H locs ls jly l1 l2 l3 l4 hP hD hS hl hw
    refine lv_iload hx hb (qaa qff 6 rfl) (lv_at hl 4 rfl) ?_
    refine lv_aload_n hx hb (qaa qff 7 rfl) rfl (lv_at hl 0 rfl) ?_
    refine va_get (D := (dC, dI)) (ci := 3) (v := .int jaN) (C := RX3) (T := TX3) (N := 11) hx hb hts qER hown hK hP 0 rfl rfl 5 (by decide) (hts _ qal6) (fun _ h9 => h9) rfl (qaa qff 8 rfl) ?_
    refine lv_icmp_ge (tgt := 82) hx hb (qaa qff 9 rfl) (by decide) (fun c5 => ?_) (fun c5 => ?_)
    · have hw := hw.1 c5
      obtain ⟨x6, ex6⟩ : ∃ y : Int32, y = l3 + 1 := ⟨_, rfl⟩
      have hw := hw x6 ex6
      refine lv_iinc (v := x6) (lv' := [(3, .int x6), (0, .ref a0), (1, .int l1), (2, .int l2), (4, .int l4)]) hx hb (qaa qfO 13 rfl) hl (k := 3) rfl (by rw [ex6]; rfl) (by decide) rfl (fun ls hl => ?_)
      refine lv_goto (tgt := 25) hx hb (qaa qfO 14 rfl) (by decide) ?_
      exact hK25 _ _ _ jly l1 l2 x6 hP hD hS (lv_sub hl [1, 2, 3, 0] rfl) hw
    · have hw := hw.2 c5
      refine lv_aload_n hx hb (qaa qff 10 rfl) rfl (lv_at hl 0 rfl) ?_
      refine va_get (D := (dC, dI)) (ci := 3) (v := .ref jhn) (C := RX3) (T := TX3) (N := 11) hx hb hts qER hown hK hP 0 rfl rfl 2 (by decide) (hts _ qai1) (fun _ h9 => h9) rfl (qaa qff 11 rfl) ?_
      refine lv_iload_n hx hb (qaa qff 12 rfl) rfl (lv_at hl 3 rfl) ?_
      obtain ⟨hi9, hw⟩ := hw
      refine va_iald hx hb hK hP 2 1 rfl rfl hi9 (qaa qff 13 rfl) ?_
      refine lv_topi (fun x7 ex7 => ?_)
      have hw := hw x7 ex7
      refine lv_iload hx hb (qaa qff 14 rfl) (lv_at hl 4 rfl) ?_
      obtain ⟨hCc, hPc, hDc, hFc⟩ := qac (ws' := []) hP hD hS hA [] (by decide +kernel) rfl
      refine va_calli (va_runSN (As := [.int x7, .int l4]) (rest := []) ⟨hx, hb, hml, hown, hts⟩ (qnt l dC dI cyB cyI cyJ cyP H.size x7 l4 hw) ⟨(va_cnB 2 hts gX3_worstAt_X10_holds_n94 rfl rfl rfl (qbmZ hNw) (hts _ q2L) (by decide +kernel) ⟨nbq rfl, nbq rfl⟩), (hts _ qUb), trivial⟩ ⟨qab, qae hPc hK hDc hNw⟩ rfl rfl hl.1 rfl (lv_room (nbq rfl)) (qaa qff 15 rfl) ⟨nbq rfl, nbq rfl⟩) hS (fun q _ h => hFc q h) hFc (fun r8 u t H1 locs ht hvm hw hB hz1 hk1 hS => ?_)
      obtain ⟨hP1, hK1, hD1⟩ := hB
      rw [ht] at hP1
      obtain ⟨hP, hD⟩ := qah (wr := (qpN a0 jhY ji2 jhn jlj jaC jaN jaO jmb jmc jkn jjZ jlj cyI jly jhn cyI jim jhY cyI jiL ji2 cyI jjH)) (w1 := []) (wn := (qpN a0 jhY ji2 jhn jlj jaC jaN jaO jmb jmc jkn jjZ jlj cyI jly jhn cyI jim jhY cyI jiL ji2 cyI jjH)) hP hD [] [0, 1, 2, 3, 4] hCc rfl (by decide +kernel) (by decide +kernel) rfl hk1 hFc hP1 hD1
      generalize H1 = H at hP hS ⊢
      refine lv_if_eq (tgt := 76) hx hb (qaa qfO 0 rfl) (by decide) (fun c9 => ?_) (fun c9 => ?_)
      · have hw := hw.1 c9
        exact qZB dC dI cyB cyI cyJ cyP a0 jlj jhn jhY ji2 jaO jmb jmc jkn jjZ jaC jaN jim jiL jjH Q K25 (quA jaC jaN jim jiL jjH Q K25 n) hK25 ih C0 _ _ _ jly l1 l2 l3 l4 hP hD hS (lv_sub hl [0, 1, 2, 3, 4] rfl) hw
      · have hw := hw.2 c9
        refine lv_iload_n hx hb (qaa qfO 1 rfl) rfl (lv_at hl 2 rfl) ?_
        refine lv_aload_n hx hb (qaa qfO 2 rfl) rfl (lv_at hl 0 rfl) ?_
        refine lv_aload_n hx hb (qaa qfO 3 rfl) rfl (lv_at hl 0 rfl) ?_
        refine lv_iload_n hx hb (qaa qfO 4 rfl) rfl (lv_at hl 1 rfl) ?_
        refine lv_iload_n hx hb (qaa qfO 5 rfl) rfl (lv_at hl 3 rfl) ?_
        refine lv_iload hx hb (qaa qfO 6 rfl) (lv_at hl 4 rfl) ?_
        obtain ⟨hCc, hPc, hDc, hFc⟩ := qac (ws' := (qban a0 jhY ji2 jhn jlj jaC jaN jaO jmb jmc jkn jjZ jhY cyI jiL ji2 cyI jjH)) hP hD hS hA [0, 3, 4] (by decide +kernel) rfl
        refine va_calli (va_runV (As := [.int l1, .int l3, .int l4]) (rest := [.ref a0, .int l2]) ⟨hx, hb, hml, hown, hts⟩ (qY7 l dC dI cyB cyI cyJ cyP a0 jhY ji2 H.size (.ref jhn) (.ref jlj) (.int jaC) (.int jaN) (jaO) (jmb) (jmc) (jkn) (jjZ) jiL jjH l1 l3 l4 hw) (cwV 3 hts gX3_worstAt_X3_seatedThen rfl rfl rfl (by decide +kernel) ⟨nbq rfl, nbq rfl⟩) ⟨qab, va_recv (q := (RX3, TX3, 11)) hK hPc (ci := 3) (q0 := 0) rfl rfl, qae hPc hK hDc hNw⟩ rfl rfl hl.1 rfl (lv_room (nbq rfl)) (qaa qfO 7 rfl) ⟨nbq rfl, nbq rfl⟩) hS (fun q _ h => hFc q h) hFc (fun r10 u t H1 locs ht hvm hw hB hz1 hk1 hS => ?_)
        obtain ⟨hP1, hK1, hD1⟩ := hB
        rw [ht] at hP1
        obtain ⟨hP, hD⟩ := qad (wr := [(jlj, .inl (cyI, 7, .inl jly)), (jhn, .inl (cyI, 6, .inl jim))]) (w1 := (qban a0 jhY ji2 jhn jlj jaC jaN jaO jmb jmc jkn jjZ jhY cyI jiL ji2 cyI jjH)) (wn := (qpN a0 jhY ji2 jhn jlj jaC jaN jaO jmb jmc jkn jjZ jlj cyI jly jhn cyI jim jhY cyI jiL ji2 cyI jjH)) hP hD [0, 3, 4] [1, 2] [2, 0, 1, 3, 4] hCc rfl (by decide +kernel) (by decide +kernel) (by decide +kernel) rfl hk1 hFc hP1 hD1
        generalize H1 = H at hP hS ⊢
        obtain ⟨hCc, hPc, hDc, hFc⟩ := qac (ws' := (qa5Z a0 jhY ji2 jhn jlj jaC jaN jaO jmb jmc jkn jjZ jlj cyI jly)) hP hD hS hA [0, 1] (by decide +kernel) rfl
        refine va_calli (va_runV (As := [.int r10]) (rest := [.int l2]) ⟨hx, hb, hml, hown, hts⟩ (qaOh l dC dI cyB cyI cyJ cyP a0 jlj H.size (.ref jhY) (.ref ji2) (.ref jhn) (.int jaC) (.int jaN) (jaO) (jmb) (jmc) (jkn) (jjZ) jly r10 hw) (cwV 1 hts gX3_worstAt_X3_tallied rfl rfl rfl (by decide +kernel) ⟨nbq rfl, nbq rfl⟩) ⟨qab, va_recv (q := (RX3, TX3, 11)) hK hPc (ci := 3) (q0 := 0) rfl rfl, qae hPc hK hDc hNw⟩ rfl rfl hl.1 rfl (lv_room (nbq rfl)) (qaa qfO 8 rfl) ⟨nbq rfl, nbq rfl⟩) hS (fun q _ h => hFc q h) hFc (fun r12 u t H1 locs ht hvm hw hB hz1 hk1 hS => ?_)
        obtain ⟨f11, rfl⟩ : ∃ z, z = u := ⟨_, rfl⟩
        obtain ⟨hP1, hK1, hD1⟩ := hB
        rw [ht] at hP1
        obtain ⟨hP, hD⟩ := qad (wr := [(jhn, .inl (cyI, 6, .inl jim)), (jhY, .inl (cyI, 8, .inl jiL)), (ji2, .inl (cyI, 6, .inl jjH))]) (w1 := (qa5Z a0 jhY ji2 jhn jlj jaC jaN jaO jmb jmc jkn jjZ jlj cyI f11)) (wn := (qpN a0 jhY ji2 jhn jlj jaC jaN jaO jmb jmc jkn jjZ jlj cyI f11 jhn cyI jim jhY cyI jiL ji2 cyI jjH)) hP hD [0, 1] [2, 3, 4] [3, 4, 0, 1, 2] hCc rfl (by decide +kernel) (by decide +kernel) (by decide +kernel) rfl hk1 hFc hP1 hD1
        generalize H1 = H at hP hS ⊢
        refine va_mmax hx hb (by rw [hml]; exact hl.1.symm) hown (hts _ qagw) (hts _ qacl) (hts _ qaeC) (hts _ q9D) (nbq rfl) (nbq rfl) (nbq rfl) (nbq rfl) (qaa qfO 9 rfl) ?_
        refine lv_topi (fun x13 ex13 => ?_)
        have hw := hw x13 ex13
        refine lv_istore_n (lv' := [(2, .int x13), (0, .ref a0), (1, .int l1), (3, .int l3), (4, .int l4)]) hx hb (qaa qfO 10 rfl) rfl hl (by decide) rfl (fun ls hl => ?_)
        exact qZB dC dI cyB cyI cyJ cyP a0 jlj jhn jhY ji2 jaO jmb jmc jkn jjZ jaC jaN jim jiL jjH Q K25 (quA jaC jaN jim jiL jjH Q K25 n) hK25 ih C0 _ _ _ f11 l1 x13 l3 l4 hP hD hS (lv_sub hl [1, 2, 0, 3, 4] rfl) hw
set_option maxHeartbeats 4000000 in
set_option maxRecDepth 100000 in
theorem qauD {p : Program} {l : Launch} {e : Env} {s : State} {m : MethodId} {args : Array Value} {below : List Frame} {meth : Method} {c : Code} {A : Nat → Prop} (dC : Nat → ClassId) (dI : Nat → Nat → Nat) (cyB cyI cyJ cyP : ClassId) (a0 jlj jhn jhY ji2 : Nat) (jaO jmb jmc jkn jjZ : Value) (jaC jaN : Int32) (jim jiL jjH : NI) (Q : Int32 → NI → Prop) (C0 : cfx p s m args meth c cX3_worstAt (some .int) wsX3_worstAt RX3 5 A (dC, dI) (kT cyB cyI cyJ cyP)) : ∀ (n : Nat) (H : Heap) (locs : List Loc) (ls : Array Slot) (jly : NI) (l1 l2 l3 : Int32), va_P (dC, dI) vwCl (qpN a0 jhY ji2 jhn jlj jaC jaN jaO jmb jmc jkn jjZ jlj cyI jly jhn cyI jim jhY cyI jiL ji2 cyI jjH) H → va_D A (qpN a0 jhY ji2 jhn jlj jaC jaN jaO jmb jmc jkn jjZ jlj cyI jly jhn cyI jim jhY cyI jiL ji2 cyI jjH) → va_S A s.heap H locs → lv_has ls 5 [(0, .ref a0), (1, .int l1), (2, .int l2), (3, .int l3)] → qAf jaC jaN jim jiL jjH Q n jly l1 l2 l3 → W p l e (headSpec wsX3_worstAt ({ frames := 2, cells := 0, slots := 0, locals := 43 })).room s m args below meth c H locs 0 0 (MQ below (va_Qi (fun (r : Int32) (u : NI) => Q r u) (cB (dC, dI) (kT cyB cyI cyJ cyP) A (fun u : NI => ((qpN a0 jhY ji2 jhn jlj jaC jaN jaO jmb jmc jkn jjZ jlj cyI u jhn cyI jim jhY cyI jiL ji2 cyI jjH) : va_W))) A) args s 0 0 A) (F0 m 25 ls []) := by
  obtain ⟨hx, hb, hr, hts, hown, hlocks, hml, hA, hK, hNw⟩ := id C0
  intro n
  induction n with
  | zero => intro H locs ls jly l1 l2 l3 hP hD hS hl hw; exact False.elim hw
  | succ n ih =>
    intro H locs ls jly l1 l2 l3 hP hD hS hl hw
    refine lv_iload_n hx hb (qaa qff 0 rfl) rfl (lv_at hl 3 rfl) ?_
    refine lv_aload_n hx hb (qaa qff 1 rfl) rfl (lv_at hl 0 rfl) ?_
    refine va_get (D := (dC, dI)) (ci := 3) (v := .int jaC) (C := RX3) (T := TX3) (N := 11) hx hb hts qER hown hK hP 0 rfl rfl 4 (by decide) (hts _ qajH) (fun _ h9 => h9) rfl (qaa qff 2 rfl) ?_
    refine lv_icmp_ge (tgt := 88) hx hb (qaa qff 3 rfl) (by decide) (fun c4 => ?_) (fun c4 => ?_)
    · have hw := hw.1 c4
      refine lv_iload_n hx hb (qaa qfO 15 rfl) rfl (lv_at hl 2 rfl) ?_
      exact ((W.iret (v := l2) hx hb hr (fun t ht hW => ⟨⟨l2, (jly), rfl, hw, by rw [ht]; exact hP, va_K.moved hW.alike hK, hD⟩, hS.F ht⟩) hS.2.2 (qaa qapj 0 rfl)))
    · have hw := hw.2 c4
      refine lv_iconst (v := 0) hx hb (qaa qff 4 rfl) (by decide) ?_
      refine lv_istore (lv' := [(4, .int 0), (0, .ref a0), (1, .int l1), (2, .int l2), (3, .int l3)]) hx hb (qaa qff 5 rfl) hl (by decide) rfl (fun ls hl => ?_)
      obtain ⟨n9, hw⟩ := hw
      exact qatI dC dI cyB cyI cyJ cyP a0 jlj jhn jhY ji2 jaO jmb jmc jkn jjZ jaC jaN jim jiL jjH Q (qAf jaC jaN jim jiL jjH Q n) ih C0 n9 _ _ _ jly l1 l2 l3 0 hP hD hS (lv_sub hl [1, 2, 3, 4, 0] rfl) hw
set_option maxHeartbeats 4000000 in
set_option maxRecDepth 100000 in
theorem qaDl {p : Program} {l : Launch} {e : Env} {s : State} {m : MethodId} {args : Array Value} {below : List Frame} {meth : Method} {c : Code} {A : Nat → Prop} (dC : Nat → ClassId) (dI : Nat → Nat → Nat) (cyB cyI cyJ cyP : ClassId) (a0 jlj jhn jhY ji2 : Nat) (jaO jmb jmc jkn jjZ : Value) (jaC jaN : Int32) (jim jiL jjH : NI) (Q : Int32 → NI → Prop) (C0 : cfx p s m args meth c cX3_worstAt (some .int) wsX3_worstAt RX3 5 A (dC, dI) (kT cyB cyI cyJ cyP)) : ∀ (n : Nat) (H : Heap) (locs : List Loc) (ls : Array Slot) (jly : NI) (l1 l2 : Int32), va_P (dC, dI) vwCl (qpN a0 jhY ji2 jhn jlj jaC jaN jaO jmb jmc jkn jjZ jlj cyI jly jhn cyI jim jhY cyI jiL ji2 cyI jjH) H → va_D A (qpN a0 jhY ji2 jhn jlj jaC jaN jaO jmb jmc jkn jjZ jlj cyI jly jhn cyI jim jhY cyI jiL ji2 cyI jjH) → va_S A s.heap H locs → lv_has ls 5 [(0, .ref a0), (1, .int l1), (2, .int l2)] → qIM jaC jaN jim jiL jjH Q n jly l1 l2 → W p l e (headSpec wsX3_worstAt ({ frames := 2, cells := 0, slots := 0, locals := 43 })).room s m args below meth c H locs 0 0 (MQ below (va_Qi (fun (r : Int32) (u : NI) => Q r u) (cB (dC, dI) (kT cyB cyI cyJ cyP) A (fun u : NI => ((qpN a0 jhY ji2 jhn jlj jaC jaN jaO jmb jmc jkn jjZ jlj cyI u jhn cyI jim jhY cyI jiL ji2 cyI jjH) : va_W))) A) args s 0 0 A) (F0 m 2 ls []) := by
  obtain ⟨hx, hb, hr, hts, hown, hlocks, hml, hA, hK, hNw⟩ := id C0
  intro n
  induction n with
  | zero => intro H locs ls jly l1 l2 hP hD hS hl hw; exact False.elim hw
  | succ n ih =>
    intro H locs ls jly l1 l2 hP hD hS hl hw
    refine lv_iload_n hx hb (qaa qhX 2 rfl) rfl (lv_at hl 2 rfl) ?_
    refine lv_bipush (v := 6) hx hb (qaa qhX 3 rfl) (by decide) ?_
    refine lv_icmp_gt (tgt := 21) hx hb (qaa qhX 4 rfl) (by decide) (fun c1 => ?_) (fun c1 => ?_)
    · have hw := hw.1 c1
      refine lv_iconst (v := 0) hx hb (qaa qhX 12 rfl) (by decide) ?_
      refine lv_istore_n (lv' := [(2, .int 0), (0, .ref a0), (1, .int l1)]) hx hb (qaa qhX 13 rfl) rfl hl (by decide) rfl (fun ls hl => ?_)
      refine lv_iconst (v := 0) hx hb (qaa qhX 14 rfl) (by decide) ?_
      refine lv_istore_n (lv' := [(3, .int 0), (2, .int 0), (0, .ref a0), (1, .int l1)]) hx hb (qaa qhX 15 rfl) rfl hl (by decide) rfl (fun ls hl => ?_)
      obtain ⟨n9, hw⟩ := hw
      exact qauD dC dI cyB cyI cyJ cyP a0 jlj jhn jhY ji2 jaO jmb jmc jkn jjZ jaC jaN jim jiL jjH Q C0 n9 _ _ _ jly l1 0 0 hP hD hS (lv_sub hl [2, 3, 1, 0] rfl) hw
    · have hw := hw.2 c1
      refine lv_aload_n hx hb (qaa qhX 5 rfl) rfl (lv_at hl 0 rfl) ?_
      refine va_get (D := (dC, dI)) (ci := 3) (v := .ref jlj) (C := RX3) (T := TX3) (N := 11) hx hb hts qER hown hK hP 0 rfl rfl 3 (by decide) (hts _ qaj3) (fun _ h9 => h9) rfl (qaa qhX 6 rfl) ?_
      refine lv_iload_n hx hb (qaa qhX 7 rfl) rfl (lv_at hl 2 rfl) ?_
      refine lv_iconst (v := 0) hx hb (qaa qhX 8 rfl) (by decide) ?_
      obtain ⟨hi9, hw⟩ := hw
      refine va_iast hx hb hK hP hD hS 1 1 rfl rfl hi9 (qaa qhX 9 rfl) (fun H locs hP hD hS => ?_)
      obtain ⟨f2, ef2⟩ : ∃ y : NI, y = upd jly l2.toNatClampNeg 0 := ⟨_, rfl⟩
      have hw := hw f2 ef2
      have hP : va_P (dC, dI) vwCl (qpN a0 jhY ji2 jhn jlj jaC jaN jaO jmb jmc jkn jjZ jlj cyI f2 jhn cyI jim jhY cyI jiL ji2 cyI jjH) H := by rw [ef2]; exact hP
      have hD : va_D A (qpN a0 jhY ji2 jhn jlj jaC jaN jaO jmb jmc jkn jjZ jlj cyI f2 jhn cyI jim jhY cyI jiL ji2 cyI jjH) := by rw [ef2]; exact hD
      obtain ⟨x3, ex3⟩ : ∃ y : Int32, y = l2 + 1 := ⟨_, rfl⟩
      have hw := hw x3 ex3
      refine lv_iinc (v := x3) (lv' := [(2, .int x3), (0, .ref a0), (1, .int l1)]) hx hb (qaa qhX 10 rfl) hl (k := 2) rfl (by rw [ex3]; rfl) (by decide) rfl (fun ls hl => ?_)
      refine lv_goto (tgt := 2) hx hb (qaa qhX 11 rfl) (by decide) ?_
      exact ih _ _ _ f2 l1 x3 hP hD hS (lv_sub hl [1, 2, 0] rfl) hw
set_option maxHeartbeats 4000000 in
set_option maxRecDepth 100000 in
theorem qaPL (l : Launch) (dC : Nat → ClassId) (dI : Nat → Nat → Nat) (cyB cyI cyJ cyP : ClassId) (a0 jlj jhn jhY ji2 sz : Nat) (jaO jmb jmc jkn jjZ : Value) (jaC jaN : Int32) (jim jiL jjH jly : NI) (p1 : Int32) {Q : Int32 → NI → Prop} (hw : qXv jaC jaN jim jiL jjH jly p1 Q) : Met l yX3_worstAt wsX3_worstAt ({ frames := 2, cells := 0, slots := 0, locals := 43 }) (va_Pc [.ref a0, .int p1] (cPc (dC, dI) (kT cyB cyI cyJ cyP) (qpN a0 jhY ji2 jhn jlj jaC jaN jaO jmb jmc jkn jjZ jlj cyI jly jhn cyI jim jhY cyI jiL ji2 cyI jjH) sz)) (va_Qi (fun (r : Int32) (u : NI) => Q r u) (cB (dC, dI) (kT cyB cyI cyJ cyP) (va_A (qpN a0 jhY ji2 jhn jlj jaC jaN jaO jmb jmc jkn jjZ jlj cyI jly jhn cyI jim jhY cyI jiL ji2 cyI jjH) sz) (fun u : NI => ((qpN a0 jhY ji2 jhn jlj jaC jaN jaO jmb jmc jkn jjZ jlj cyI u jhn cyI jim jhY cyI jiL ji2 cyI jjH) : va_W))) (va_A (qpN a0 jhY ji2 jhn jlj jaC jaN jaO jmb jmc jkn jjZ jlj cyI jly jhn cyI jim jhY cyI jiL ji2 cyI jjH) sz)) 0 0 (va_A (qpN a0 jhY ji2 jhn jlj jaC jaN jaO jmb jmc jkn jjZ jlj cyI jly jhn cyI jim jhY cyI jiL ji2 cyI jjH) sz) := by
  refine Met.ofW (cc := cX3_worstAt) (maxL := 5) (ret := (some .int)) (by decide) rfl ?_
  intro p e s m args below meth c s₁ B hml hv
  obtain ⟨rfl, hsz, hP, hK, hD0, hNw⟩ := hv
  have hx := B.exec
  have hb := B.bytes
  have hr := B.returns
  have hts := atoms_spec (ws := wsX3_worstAt) B.pre
  have hown : s.vm.findClass RX3 = some m.cls := findClass_of_methodNamed B.named
  have hlocks := B.notSynchronized
  subst hsz
  have hD := hD0.self (sz := s.heap.size)
  generalize hAe : va_A (qpN a0 jhY ji2 jhn jlj jaC jaN jaO jmb jmc jkn jjZ jlj cyI jly jhn cyI jim jhY cyI jiL ji2 cyI jjH) s.heap.size = A at hD ⊢
  have hA : ∀ q : Nat, s.heap.size ≤ q → A q := fun q h => by rw [← hAe]; exact Or.inr h
  have hS : va_S A s.heap s.heap [] := va_S.rf
  have hP : va_P (dC, dI) vwCl (qpN a0 jhY ji2 jhn jlj jaC jaN jaO jmb jmc jkn jjZ jlj cyI jly jhn cyI jim jhY cyI jiL ji2 cyI jjH) s.heap := hP
  have hl := lv_entry ([.ref a0, .int p1]) (n := 5) (nbq rfl)
  rw [lg_entry_eq]
  generalize (lg_sl ([.ref a0, .int p1]) ++ List.replicate (5 - (lg_sl ([.ref a0, .int p1])).length) Slot.unset).toArray = ls at hl ⊢
  have hl : lv_has ls 5 [(0, .ref a0), (1, .int p1)] := hl
  have C0 : cfx p s m _ meth c cX3_worstAt (some .int) wsX3_worstAt RX3 5 A (dC, dI) (kT cyB cyI cyJ cyP) := ⟨hx, hb, hr, hts, hown, hlocks, hml, hA, hK, hNw⟩
  clear hAe
  obtain ⟨H, hH⟩ : ∃ H, H = s.heap := ⟨_, rfl⟩
  rw [← hH] at hP ⊢
  have hS : va_S A s.heap H [] := by rw [hH]; exact va_S.rf
  have hS := hS
  refine lv_iconst (v := 0) hx hb (qaa qhX 0 rfl) (by decide) ?_
  refine lv_istore_n (lv' := [(2, .int 0), (0, .ref a0), (1, .int p1)]) hx hb (qaa qhX 1 rfl) rfl hl (by decide) rfl (fun ls hl => ?_)
  obtain ⟨n9, hw⟩ := hw
  exact qaDl dC dI cyB cyI cyJ cyP a0 jlj jhn jhY ji2 jaO jmb jmc jkn jjZ jaC jaN jim jiL jjH Q C0 n9 _ _ _ jly p1 0 hP hD hS (lv_sub hl [1, 2, 0] rfl) hw
