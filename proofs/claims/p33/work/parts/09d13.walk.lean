/-- worlds by their leaves -/
def q2M (x0 : Nat) (x1 : Int32) (x2 : Nat) (x3 x4 x5 x6 x7 x8 x9 x10 x11 x12 x13 x14 : Value) (x15 : Nat) (x16 : Value) (x17 : Nat) (x18 x19 x20 : Value) (x21 x22 x23 : Int32) (x24 x25 : Value) (x26 x27 x28 : Nat) (x29 : Value) (x30 : Int32) (x31 : Nat) (x32 x33 x34 x35 x36 x37 x38 x39 : Value) (x40 x41 : Nat) (x42 x43 x44 x45 : Value) (x46 x47 x48 : Nat) (x49 x50 x51 x52 x53 x54 x55 : Value) (x56 : Nat) (x57 : ClassId) (x58 : NI) (x59 : Nat) (x60 : ClassId) (x61 : NI) (x62 : Nat) (x63 : ClassId) (x64 : NI) (x65 : Nat) (x66 : ClassId) (x67 : NI) (x68 : Nat) (x69 : ClassId) (x70 : NI) (x71 : Nat) (x72 : ClassId) (x73 : NI) (x74 : Nat) (x75 : ClassId) (x76 : NI) (x77 : Nat) (x78 : ClassId) (x79 : NI) (x80 : Nat) (x81 : ClassId) (x82 : NI) (x83 : Nat) (x84 : ClassId) (x85 : NI) (x86 : Nat) (x87 : ClassId) (x88 : NI) (x89 : Nat) (x90 : ClassId) (x91 : NI) : va_W := [(x0, .inr (11, [.int x1, .ref x2, x3, x4, x5, x6, x7, x8, x9, x10, x11, x12, x13, x14, .ref x15, x16, .ref x17, x18, x19, x20, .int x21, .int x22, .int x23, x24, x25, .ref x26, .ref x27, .ref x28, x29, .int x30, .ref x31, x32, x33, x34, x35, x36, x37, x38, x39, .ref x40, .ref x41, x42, x43, x44, x45, .ref x46, .ref x47, .ref x48, x49, x50, x51, x52, x53, x54, x55])), (x56, .inl (x57, 2, .inl x58)), (x59, .inl (x60, 68, .inl x61)), (x62, .inl (x63, 68, .inl x64)), (x65, .inl (x66, 16, .inl x67)), (x68, .inl (x69, 8, .inl x70)), (x71, .inl (x72, 150, .inl x73)), (x74, .inl (x75, 150, .inl x76)), (x77, .inl (x78, 150, .inl x79)), (x80, .inl (x81, 8, .inl x82)), (x83, .inl (x84, 1792, .inl x85)), (x86, .inl (x87, 6, .inl x88)), (x89, .inl (x90, 6, .inl x91))]
def qbeh (x0 : Nat) (x1 : Int32) (x2 : Nat) (x3 x4 x5 x6 x7 x8 x9 x10 x11 x12 x13 x14 : Value) (x15 : Nat) (x16 : Value) (x17 : Nat) (x18 x19 x20 : Value) (x21 x22 x23 : Int32) (x24 x25 : Value) (x26 x27 x28 : Nat) (x29 : Value) (x30 : Int32) (x31 : Nat) (x32 x33 x34 x35 x36 x37 x38 x39 : Value) (x40 x41 : Nat) (x42 x43 x44 x45 : Value) (x46 x47 x48 : Nat) (x49 x50 x51 x52 x53 x54 x55 : Value) (x56 : Nat) (x57 : ClassId) (x58 : NI) : va_W := [(x0, .inr (11, [.int x1, .ref x2, x3, x4, x5, x6, x7, x8, x9, x10, x11, x12, x13, x14, .ref x15, x16, .ref x17, x18, x19, x20, .int x21, .int x22, .int x23, x24, x25, .ref x26, .ref x27, .ref x28, x29, .int x30, .ref x31, x32, x33, x34, x35, x36, x37, x38, x39, .ref x40, .ref x41, x42, x43, x44, x45, .ref x46, .ref x47, .ref x48, x49, x50, x51, x52, x53, x54, x55])), (x56, .inl (x57, 2, .inl x58))]
def qbcv (x0 : Nat) (x1 : Int32) (x2 : Nat) (x3 x4 x5 x6 x7 x8 x9 x10 x11 x12 x13 x14 : Value) (x15 : Nat) (x16 : Value) (x17 : Nat) (x18 x19 x20 : Value) (x21 x22 x23 : Int32) (x24 x25 : Value) (x26 x27 x28 : Nat) (x29 : Value) (x30 : Int32) (x31 : Nat) (x32 x33 x34 x35 x36 x37 x38 x39 : Value) (x40 x41 : Nat) (x42 x43 x44 x45 : Value) (x46 x47 x48 : Nat) (x49 x50 x51 x52 x53 x54 x55 : Value) (x56 : Nat) (x57 : ClassId) (x58 : NI) (x59 : Nat) (x60 : ClassId) (x61 : NI) (x62 : Nat) (x63 : ClassId) (x64 : NI) (x65 : Nat) (x66 : ClassId) (x67 : NI) (x68 : Nat) (x69 : ClassId) (x70 : NI) (x71 : Nat) (x72 : ClassId) (x73 : NI) (x74 : Nat) (x75 : ClassId) (x76 : NI) (x77 : Nat) (x78 : ClassId) (x79 : NI) (x80 : Nat) (x81 : ClassId) (x82 : NI) (x83 : Nat) (x84 : ClassId) (x85 : NI) (x86 : Nat) (x87 : ClassId) (x88 : NI) : va_W := [(x0, .inr (11, [.int x1, .ref x2, x3, x4, x5, x6, x7, x8, x9, x10, x11, x12, x13, x14, .ref x15, x16, .ref x17, x18, x19, x20, .int x21, .int x22, .int x23, x24, x25, .ref x26, .ref x27, .ref x28, x29, .int x30, .ref x31, x32, x33, x34, x35, x36, x37, x38, x39, .ref x40, .ref x41, x42, x43, x44, x45, .ref x46, .ref x47, .ref x48, x49, x50, x51, x52, x53, x54, x55])), (x56, .inl (x57, 68, .inl x58)), (x59, .inl (x60, 68, .inl x61)), (x62, .inl (x63, 16, .inl x64)), (x65, .inl (x66, 8, .inl x67)), (x68, .inl (x69, 150, .inl x70)), (x71, .inl (x72, 150, .inl x73)), (x74, .inl (x75, 150, .inl x76)), (x77, .inl (x78, 8, .inl x79)), (x80, .inl (x81, 1792, .inl x82)), (x83, .inl (x84, 6, .inl x85)), (x86, .inl (x87, 6, .inl x88))]
def qYQ (x0 : Nat) (x1 : Int32) (x2 x3 x4 x5 x6 x7 x8 x9 x10 x11 x12 x13 x14 : Value) (x15 : Nat) (x16 : Value) (x17 : Nat) (x18 x19 x20 : Value) (x21 x22 x23 : Int32) (x24 x25 : Value) (x26 x27 x28 : Nat) (x29 : Value) (x30 : Int32) (x31 : Nat) (x32 x33 x34 x35 x36 x37 x38 x39 : Value) (x40 x41 : Nat) (x42 x43 x44 x45 : Value) (x46 x47 x48 : Nat) (x49 x50 x51 x52 x53 x54 x55 : Value) (x56 : Nat) (x57 : ClassId) (x58 : NI) (x59 : Nat) (x60 : ClassId) (x61 : NI) (x62 : Nat) (x63 : ClassId) (x64 : NI) (x65 : Nat) (x66 : ClassId) (x67 : NI) (x68 : Nat) (x69 : ClassId) (x70 : NI) (x71 : Nat) (x72 : ClassId) (x73 : NI) (x74 : Nat) (x75 : ClassId) (x76 : NI) (x77 : Nat) (x78 : ClassId) (x79 : NI) (x80 : Nat) (x81 : ClassId) (x82 : NI) (x83 : Nat) (x84 : ClassId) (x85 : NI) (x86 : Nat) (x87 : ClassId) (x88 : NI) : va_W := [(x0, .inr (11, [.int x1, x2, x3, x4, x5, x6, x7, x8, x9, x10, x11, x12, x13, x14, .ref x15, x16, .ref x17, x18, x19, x20, .int x21, .int x22, .int x23, x24, x25, .ref x26, .ref x27, .ref x28, x29, .int x30, .ref x31, x32, x33, x34, x35, x36, x37, x38, x39, .ref x40, .ref x41, x42, x43, x44, x45, .ref x46, .ref x47, .ref x48, x49, x50, x51, x52, x53, x54, x55])), (x56, .inl (x57, 68, .inl x58)), (x59, .inl (x60, 68, .inl x61)), (x62, .inl (x63, 16, .inl x64)), (x65, .inl (x66, 8, .inl x67)), (x68, .inl (x69, 150, .inl x70)), (x71, .inl (x72, 150, .inl x73)), (x74, .inl (x75, 150, .inl x76)), (x77, .inl (x78, 8, .inl x79)), (x80, .inl (x81, 1792, .inl x82)), (x83, .inl (x84, 6, .inl x85)), (x86, .inl (x87, 6, .inl x88))]
def qnu (x0 : Nat) (x1 : Int32) (x2 : Nat) (x3 x4 x5 x6 x7 x8 x9 x10 x11 x12 x13 x14 : Value) (x15 x16 x17 : Nat) (x18 x19 x20 : Value) (x21 x22 x23 : Int32) (x24 x25 : Value) (x26 x27 x28 : Nat) (x29 : Value) (x30 : Int32) (x31 : Nat) (x32 x33 x34 x35 x36 x37 x38 x39 : Value) (x40 x41 : Nat) (x42 x43 x44 x45 x46 x47 x48 x49 x50 x51 : Value) (x52 x53 : Int32) (x54 x55 : Value) (x56 : Nat) (x57 : ClassId) (x58 : NI) (x59 : Nat) (x60 : ClassId) (x61 : NI) (x62 : Nat) (x63 : ClassId) (x64 : NI) (x65 : Nat) (x66 : ClassId) (x67 : NI) (x68 : Nat) (x69 : ClassId) (x70 : NI) (x71 : Nat) (x72 : ClassId) (x73 : NI) (x74 : Nat) (x75 : ClassId) (x76 : NI) (x77 : Nat) (x78 : ClassId) (x79 : NI) (x80 : Nat) (x81 : ClassId) (x82 : NI) (x83 : Nat) (x84 : ClassId) (x85 : NI) : va_W := [(x0, .inr (11, [.int x1, .ref x2, x3, x4, x5, x6, x7, x8, x9, x10, x11, x12, x13, x14, .ref x15, .ref x16, .ref x17, x18, x19, x20, .int x21, .int x22, .int x23, x24, x25, .ref x26, .ref x27, .ref x28, x29, .int x30, .ref x31, x32, x33, x34, x35, x36, x37, x38, x39, .ref x40, .ref x41, x42, x43, x44, x45, x46, x47, x48, x49, x50, x51, .int x52, .int x53, x54, x55])), (x56, .inl (x57, 2, .inl x58)), (x59, .inl (x60, 68, .inl x61)), (x62, .inl (x63, 68, .inl x64)), (x65, .inl (x66, 16, .inl x67)), (x68, .inl (x69, 8, .inl x70)), (x71, .inl (x72, 150, .inl x73)), (x74, .inl (x75, 150, .inl x76)), (x77, .inl (x78, 150, .inl x79)), (x80, .inl (x81, 8, .inl x82)), (x83, .inl (x84, 12, .inl x85))]
def qbd7 (x0 : Nat) (x1 : Int32) (x2 : Nat) (x3 x4 x5 x6 x7 x8 x9 x10 x11 x12 x13 x14 : Value) (x15 x16 x17 : Nat) (x18 x19 x20 : Value) (x21 x22 x23 : Int32) (x24 x25 : Value) (x26 x27 x28 : Nat) (x29 : Value) (x30 : Int32) (x31 : Nat) (x32 x33 x34 x35 x36 x37 x38 x39 : Value) (x40 x41 : Nat) (x42 x43 x44 x45 x46 x47 x48 x49 x50 x51 : Value) (x52 x53 : Int32) (x54 x55 : Value) (x56 : Nat) (x57 : ClassId) (x58 : NI) : va_W := [(x0, .inr (11, [.int x1, .ref x2, x3, x4, x5, x6, x7, x8, x9, x10, x11, x12, x13, x14, .ref x15, .ref x16, .ref x17, x18, x19, x20, .int x21, .int x22, .int x23, x24, x25, .ref x26, .ref x27, .ref x28, x29, .int x30, .ref x31, x32, x33, x34, x35, x36, x37, x38, x39, .ref x40, .ref x41, x42, x43, x44, x45, x46, x47, x48, x49, x50, x51, .int x52, .int x53, x54, x55])), (x56, .inl (x57, 68, .inl x58))]
def qber (x0 : Nat) (x1 : Int32) (x2 : Nat) (x3 x4 x5 x6 x7 x8 x9 x10 x11 x12 x13 x14 : Value) (x15 x16 x17 : Nat) (x18 x19 x20 : Value) (x21 x22 x23 : Int32) (x24 x25 : Value) (x26 x27 x28 : Nat) (x29 : Value) (x30 : Int32) (x31 : Nat) (x32 x33 x34 x35 x36 x37 x38 x39 : Value) (x40 x41 : Nat) (x42 x43 x44 x45 x46 x47 x48 x49 x50 x51 : Value) (x52 x53 : Int32) (x54 x55 : Value) (x56 : Nat) (x57 : ClassId) (x58 : NI) (x59 : Nat) (x60 : ClassId) (x61 : NI) (x62 : Nat) (x63 : ClassId) (x64 : NI) (x65 : Nat) (x66 : ClassId) (x67 : NI) (x68 : Nat) (x69 : ClassId) (x70 : NI) (x71 : Nat) (x72 : ClassId) (x73 : NI) (x74 : Nat) (x75 : ClassId) (x76 : NI) (x77 : Nat) (x78 : ClassId) (x79 : NI) (x80 : Nat) (x81 : ClassId) (x82 : NI) : va_W := [(x0, .inr (11, [.int x1, .ref x2, x3, x4, x5, x6, x7, x8, x9, x10, x11, x12, x13, x14, .ref x15, .ref x16, .ref x17, x18, x19, x20, .int x21, .int x22, .int x23, x24, x25, .ref x26, .ref x27, .ref x28, x29, .int x30, .ref x31, x32, x33, x34, x35, x36, x37, x38, x39, .ref x40, .ref x41, x42, x43, x44, x45, x46, x47, x48, x49, x50, x51, .int x52, .int x53, x54, x55])), (x56, .inl (x57, 68, .inl x58)), (x59, .inl (x60, 68, .inl x61)), (x62, .inl (x63, 16, .inl x64)), (x65, .inl (x66, 8, .inl x67)), (x68, .inl (x69, 150, .inl x70)), (x71, .inl (x72, 150, .inl x73)), (x74, .inl (x75, 150, .inl x76)), (x77, .inl (x78, 8, .inl x79)), (x80, .inl (x81, 12, .inl x82))]
def qbcD (x0 : Nat) (x1 : ClassId) (x2 : NI) : va_W := [(x0, .inl (x1, 2, .inl x2))]
def qbes (x0 : Nat) (x1 : Int32) (x2 : Nat) (x3 x4 x5 x6 x7 x8 x9 x10 x11 x12 x13 x14 : Value) (x15 x16 x17 : Nat) (x18 x19 x20 : Value) (x21 x22 x23 : Int32) (x24 x25 : Value) (x26 x27 x28 : Nat) (x29 : Value) (x30 : Int32) (x31 : Nat) (x32 x33 x34 x35 x36 x37 x38 x39 : Value) (x40 x41 : Nat) (x42 x43 x44 x45 x46 x47 x48 x49 x50 x51 : Value) (x52 x53 : Int32) (x54 x55 : Value) (x56 : Nat) (x57 : ClassId) (x58 : NI) : va_W := [(x0, .inr (11, [.int x1, .ref x2, x3, x4, x5, x6, x7, x8, x9, x10, x11, x12, x13, x14, .ref x15, .ref x16, .ref x17, x18, x19, x20, .int x21, .int x22, .int x23, x24, x25, .ref x26, .ref x27, .ref x28, x29, .int x30, .ref x31, x32, x33, x34, x35, x36, x37, x38, x39, .ref x40, .ref x41, x42, x43, x44, x45, x46, x47, x48, x49, x50, x51, .int x52, .int x53, x54, x55])), (x56, .inl (x57, 2, .inl x58))]
def q3G (x0 : Nat) (x1 : Int32) (x2 : Nat) (x3 x4 x5 x6 x7 x8 x9 x10 x11 x12 x13 x14 x15 x16 x17 x18 x19 x20 x21 x22 x23 x24 x25 x26 x27 x28 x29 x30 x31 x32 x33 x34 x35 x36 x37 x38 x39 x40 x41 x42 x43 x44 x45 x46 x47 x48 x49 x50 x51 x52 x53 x54 x55 : Value) (x56 : Nat) (x57 : ClassId) (x58 : NI) : va_W := [(x0, .inr (11, [.int x1, .ref x2, x3, x4, x5, x6, x7, x8, x9, x10, x11, x12, x13, x14, x15, x16, x17, x18, x19, x20, x21, x22, x23, x24, x25, x26, x27, x28, x29, x30, x31, x32, x33, x34, x35, x36, x37, x38, x39, x40, x41, x42, x43, x44, x45, x46, x47, x48, x49, x50, x51, x52, x53, x54, x55])), (x56, .inl (x57, 2, .inl x58))]
def qqr (x0 : Nat) (x1 : Int32) (x2 : Nat) (x3 x4 x5 x6 x7 x8 x9 x10 x11 x12 x13 x14 x15 x16 x17 x18 x19 x20 x21 : Value) (x22 : Int32) (x23 x24 x25 x26 x27 x28 x29 x30 x31 x32 x33 x34 x35 x36 x37 x38 x39 : Value) (x40 x41 : Nat) (x42 x43 x44 x45 x46 x47 x48 x49 x50 x51 x52 x53 x54 x55 : Value) (x56 : Nat) (x57 : ClassId) (x58 : NI) (x59 : Nat) (x60 : ClassId) (x61 : NI) (x62 : Nat) (x63 : ClassId) (x64 : NI) : va_W := [(x0, .inr (11, [.int x1, .ref x2, x3, x4, x5, x6, x7, x8, x9, x10, x11, x12, x13, x14, x15, x16, x17, x18, x19, x20, x21, .int x22, x23, x24, x25, x26, x27, x28, x29, x30, x31, x32, x33, x34, x35, x36, x37, x38, x39, .ref x40, .ref x41, x42, x43, x44, x45, x46, x47, x48, x49, x50, x51, x52, x53, x54, x55])), (x56, .inl (x57, 2, .inl x58)), (x59, .inl (x60, 68, .inl x61)), (x62, .inl (x63, 68, .inl x64))]
def qa78 (x0 : Nat) (x1 : Int32) (x2 : Nat) (x3 x4 x5 x6 x7 x8 x9 x10 x11 x12 x13 x14 x15 x16 x17 x18 x19 x20 x21 : Value) (x22 : Int32) (x23 x24 x25 x26 x27 x28 x29 x30 x31 x32 x33 x34 x35 x36 x37 x38 x39 : Value) (x40 x41 : Nat) (x42 x43 x44 x45 x46 x47 x48 x49 x50 x51 x52 x53 x54 x55 : Value) (x56 : Nat) (x57 : ClassId) (x58 : NI) : va_W := [(x0, .inr (11, [.int x1, .ref x2, x3, x4, x5, x6, x7, x8, x9, x10, x11, x12, x13, x14, x15, x16, x17, x18, x19, x20, x21, .int x22, x23, x24, x25, x26, x27, x28, x29, x30, x31, x32, x33, x34, x35, x36, x37, x38, x39, .ref x40, .ref x41, x42, x43, x44, x45, x46, x47, x48, x49, x50, x51, x52, x53, x54, x55])), (x56, .inl (x57, 68, .inl x58))]
def qa8N (x0 : Nat) (x1 : ClassId) (x2 : NI) (x3 : Nat) (x4 : ClassId) (x5 : NI) : va_W := [(x0, .inl (x1, 2, .inl x2)), (x3, .inl (x4, 68, .inl x5))]
def qa6L (x0 : Nat) (x1 : Int32) (x2 : Nat) (x3 x4 x5 x6 x7 x8 x9 x10 x11 x12 x13 x14 x15 x16 x17 x18 x19 x20 x21 : Value) (x22 : Int32) (x23 x24 x25 x26 x27 x28 x29 x30 x31 x32 x33 x34 x35 x36 x37 x38 x39 : Value) (x40 x41 : Nat) (x42 x43 x44 x45 x46 x47 x48 x49 x50 x51 x52 x53 x54 x55 : Value) (x56 : Nat) (x57 : ClassId) (x58 : NI) : va_W := [(x0, .inr (11, [.int x1, .ref x2, x3, x4, x5, x6, x7, x8, x9, x10, x11, x12, x13, x14, x15, x16, x17, x18, x19, x20, x21, .int x22, x23, x24, x25, x26, x27, x28, x29, x30, x31, x32, x33, x34, x35, x36, x37, x38, x39, .ref x40, .ref x41, x42, x43, x44, x45, x46, x47, x48, x49, x50, x51, x52, x53, x54, x55])), (x56, .inl (x57, 2, .inl x58))]
def qa83 (x0 : Nat) (x1 : Int32) (x2 : Nat) (x3 x4 x5 x6 x7 x8 x9 x10 x11 x12 x13 x14 x15 x16 x17 x18 x19 x20 x21 : Value) (x22 : Int32) (x23 x24 x25 x26 x27 x28 x29 x30 x31 x32 x33 x34 x35 x36 x37 x38 x39 : Value) (x40 x41 : Nat) (x42 x43 x44 x45 x46 x47 x48 x49 x50 x51 x52 x53 x54 x55 : Value) (x56 : Nat) (x57 : ClassId) (x58 : NI) (x59 : Nat) (x60 : ClassId) (x61 : NI) : va_W := [(x0, .inr (11, [.int x1, .ref x2, x3, x4, x5, x6, x7, x8, x9, x10, x11, x12, x13, x14, x15, x16, x17, x18, x19, x20, x21, .int x22, x23, x24, x25, x26, x27, x28, x29, x30, x31, x32, x33, x34, x35, x36, x37, x38, x39, .ref x40, .ref x41, x42, x43, x44, x45, x46, x47, x48, x49, x50, x51, x52, x53, x54, x55])), (x56, .inl (x57, 68, .inl x58)), (x59, .inl (x60, 68, .inl x61))]
def q98 (x0 : Nat) (x1 : Int32) (x2 x3 x4 x5 x6 x7 x8 x9 x10 x11 x12 x13 x14 x15 x16 x17 x18 x19 x20 x21 x22 x23 x24 x25 x26 x27 x28 x29 x30 x31 x32 x33 x34 x35 x36 x37 x38 x39 x40 x41 x42 x43 x44 x45 x46 x47 x48 x49 x50 x51 x52 x53 x54 x55 : Value) : va_W := [(x0, .inr (11, [.int x1, x2, x3, x4, x5, x6, x7, x8, x9, x10, x11, x12, x13, x14, x15, x16, x17, x18, x19, x20, x21, x22, x23, x24, x25, x26, x27, x28, x29, x30, x31, x32, x33, x34, x35, x36, x37, x38, x39, x40, x41, x42, x43, x44, x45, x46, x47, x48, x49, x50, x51, x52, x53, x54, x55]))]
def qsM (x0 : Nat) (x1 : Int32) (x2 : Nat) (x3 x4 x5 x6 x7 x8 x9 x10 x11 x12 x13 x14 x15 x16 x17 x18 x19 x20 x21 : Value) (x22 : Int32) (x23 x24 x25 x26 x27 x28 x29 x30 x31 x32 x33 x34 x35 x36 x37 x38 x39 : Value) (x40 : Nat) (x41 x42 x43 x44 x45 x46 x47 x48 x49 x50 x51 x52 x53 x54 x55 : Value) (x56 : Nat) (x57 : ClassId) (x58 : NI) (x59 : Nat) (x60 : ClassId) (x61 : NI) : va_W := [(x0, .inr (11, [.int x1, .ref x2, x3, x4, x5, x6, x7, x8, x9, x10, x11, x12, x13, x14, x15, x16, x17, x18, x19, x20, x21, .int x22, x23, x24, x25, x26, x27, x28, x29, x30, x31, x32, x33, x34, x35, x36, x37, x38, x39, .ref x40, x41, x42, x43, x44, x45, x46, x47, x48, x49, x50, x51, x52, x53, x54, x55])), (x56, .inl (x57, 2, .inl x58)), (x59, .inl (x60, 68, .inl x61))]
def qaQg (x0 : Nat) (x1 : Int32) (x2 : Nat) (x3 x4 x5 x6 x7 x8 x9 x10 x11 x12 x13 x14 x15 x16 x17 x18 x19 x20 x21 : Value) (x22 : Int32) (x23 x24 x25 x26 x27 x28 x29 x30 x31 x32 x33 x34 x35 x36 x37 x38 x39 : Value) (x40 : Nat) (x41 x42 x43 x44 x45 x46 x47 x48 x49 x50 x51 x52 x53 x54 x55 : Value) (x56 : Nat) (x57 : ClassId) (x58 : NI) : va_W := [(x0, .inr (11, [.int x1, .ref x2, x3, x4, x5, x6, x7, x8, x9, x10, x11, x12, x13, x14, x15, x16, x17, x18, x19, x20, x21, .int x22, x23, x24, x25, x26, x27, x28, x29, x30, x31, x32, x33, x34, x35, x36, x37, x38, x39, .ref x40, x41, x42, x43, x44, x45, x46, x47, x48, x49, x50, x51, x52, x53, x54, x55])), (x56, .inl (x57, 2, .inl x58))]
def qyh (x0 : Nat) (x1 : Int32) (x2 : Nat) (x3 x4 x5 x6 x7 x8 x9 x10 x11 x12 x13 x14 : Value) (x15 : Nat) (x16 : Value) (x17 : Nat) (x18 x19 x20 : Value) (x21 x22 x23 : Int32) (x24 x25 x26 x27 x28 x29 x30 x31 x32 x33 x34 x35 : Value) (x36 : Int32) (x37 x38 x39 : Value) (x40 x41 : Nat) (x42 x43 x44 : Value) (x45 : Int32) (x46 x47 x48 x49 x50 x51 x52 x53 x54 x55 : Value) (x56 : Nat) (x57 : ClassId) (x58 : NI) (x59 : Nat) (x60 : ClassId) (x61 : NI) (x62 : Nat) (x63 : ClassId) (x64 : NI) (x65 : Nat) (x66 : ClassId) (x67 : NI) (x68 : Nat) (x69 : ClassId) (x70 : NI) : va_W := [(x0, .inr (11, [.int x1, .ref x2, x3, x4, x5, x6, x7, x8, x9, x10, x11, x12, x13, x14, .ref x15, x16, .ref x17, x18, x19, x20, .int x21, .int x22, .int x23, x24, x25, x26, x27, x28, x29, x30, x31, x32, x33, x34, x35, .int x36, x37, x38, x39, .ref x40, .ref x41, x42, x43, x44, .int x45, x46, x47, x48, x49, x50, x51, x52, x53, x54, x55])), (x56, .inl (x57, 2, .inl x58)), (x59, .inl (x60, 68, .inl x61)), (x62, .inl (x63, 68, .inl x64)), (x65, .inl (x66, 16, .inl x67)), (x68, .inl (x69, 8, .inl x70))]
def qa53 (x0 : Nat) (x1 : Int32) (x2 : Nat) (x3 x4 x5 x6 x7 x8 x9 x10 x11 x12 x13 x14 : Value) (x15 : Nat) (x16 : Value) (x17 : Nat) (x18 x19 x20 : Value) (x21 x22 x23 : Int32) (x24 x25 x26 x27 x28 x29 x30 x31 x32 x33 x34 x35 : Value) (x36 : Int32) (x37 x38 x39 : Value) (x40 x41 : Nat) (x42 x43 x44 : Value) (x45 : Int32) (x46 x47 x48 x49 x50 x51 x52 x53 x54 x55 : Value) (x56 : Nat) (x57 : ClassId) (x58 : NI) (x59 : Nat) (x60 : ClassId) (x61 : NI) (x62 : Nat) (x63 : ClassId) (x64 : NI) : va_W := [(x0, .inr (11, [.int x1, .ref x2, x3, x4, x5, x6, x7, x8, x9, x10, x11, x12, x13, x14, .ref x15, x16, .ref x17, x18, x19, x20, .int x21, .int x22, .int x23, x24, x25, x26, x27, x28, x29, x30, x31, x32, x33, x34, x35, .int x36, x37, x38, x39, .ref x40, .ref x41, x42, x43, x44, .int x45, x46, x47, x48, x49, x50, x51, x52, x53, x54, x55])), (x56, .inl (x57, 68, .inl x58)), (x59, .inl (x60, 16, .inl x61)), (x62, .inl (x63, 8, .inl x64))]
def qa9F (x0 : Nat) (x1 : Int32) (x2 : Nat) (x3 x4 x5 x6 x7 x8 x9 x10 x11 x12 x13 x14 : Value) (x15 : Nat) (x16 : Value) (x17 : Nat) (x18 x19 x20 : Value) (x21 x22 x23 : Int32) (x24 x25 x26 x27 x28 x29 x30 x31 x32 x33 x34 x35 : Value) (x36 : Int32) (x37 x38 x39 : Value) (x40 x41 : Nat) (x42 x43 x44 : Value) (x45 : Int32) (x46 x47 x48 x49 x50 x51 x52 x53 x54 x55 : Value) (x56 : Nat) (x57 : ClassId) (x58 : NI) : va_W := [(x0, .inr (11, [.int x1, .ref x2, x3, x4, x5, x6, x7, x8, x9, x10, x11, x12, x13, x14, .ref x15, x16, .ref x17, x18, x19, x20, .int x21, .int x22, .int x23, x24, x25, x26, x27, x28, x29, x30, x31, x32, x33, x34, x35, .int x36, x37, x38, x39, .ref x40, .ref x41, x42, x43, x44, .int x45, x46, x47, x48, x49, x50, x51, x52, x53, x54, x55])), (x56, .inl (x57, 2, .inl x58))]
def qa8y (x0 : Nat) (x1 : Int32) (x2 : Nat) (x3 x4 x5 x6 x7 x8 x9 x10 x11 x12 x13 x14 : Value) (x15 : Nat) (x16 : Value) (x17 : Nat) (x18 x19 x20 : Value) (x21 x22 x23 : Int32) (x24 x25 x26 x27 x28 x29 x30 x31 x32 x33 x34 x35 : Value) (x36 : Int32) (x37 x38 x39 : Value) (x40 x41 : Nat) (x42 x43 x44 : Value) (x45 : Int32) (x46 x47 x48 x49 x50 x51 x52 x53 x54 x55 : Value) (x56 : Nat) (x57 : ClassId) (x58 : NI) (x59 : Nat) (x60 : ClassId) (x61 : NI) : va_W := [(x0, .inr (11, [.int x1, .ref x2, x3, x4, x5, x6, x7, x8, x9, x10, x11, x12, x13, x14, .ref x15, x16, .ref x17, x18, x19, x20, .int x21, .int x22, .int x23, x24, x25, x26, x27, x28, x29, x30, x31, x32, x33, x34, x35, .int x36, x37, x38, x39, .ref x40, .ref x41, x42, x43, x44, .int x45, x46, x47, x48, x49, x50, x51, x52, x53, x54, x55])), (x56, .inl (x57, 68, .inl x58)), (x59, .inl (x60, 68, .inl x61))]
def qaNN (x0 : Nat) (x1 : Int32) (x2 : Nat) (x3 x4 x5 x6 x7 x8 x9 x10 x11 x12 x13 x14 : Value) (x15 : Nat) (x16 : Value) (x17 : Nat) (x18 x19 x20 : Value) (x21 x22 x23 : Int32) (x24 x25 x26 x27 x28 x29 x30 x31 x32 x33 x34 x35 : Value) (x36 : Int32) (x37 x38 x39 : Value) (x40 x41 : Nat) (x42 x43 x44 : Value) (x45 : Int32) (x46 x47 x48 x49 x50 x51 x52 x53 x54 x55 : Value) (x56 : Nat) (x57 : ClassId) (x58 : NI) : va_W := [(x0, .inr (11, [.int x1, .ref x2, x3, x4, x5, x6, x7, x8, x9, x10, x11, x12, x13, x14, .ref x15, x16, .ref x17, x18, x19, x20, .int x21, .int x22, .int x23, x24, x25, x26, x27, x28, x29, x30, x31, x32, x33, x34, x35, .int x36, x37, x38, x39, .ref x40, .ref x41, x42, x43, x44, .int x45, x46, x47, x48, x49, x50, x51, x52, x53, x54, x55])), (x56, .inl (x57, 68, .inl x58))]
def qa8M (x0 : Nat) (x1 : ClassId) (x2 : NI) (x3 : Nat) (x4 : ClassId) (x5 : NI) (x6 : Nat) (x7 : ClassId) (x8 : NI) (x9 : Nat) (x10 : ClassId) (x11 : NI) : va_W := [(x0, .inl (x1, 2, .inl x2)), (x3, .inl (x4, 68, .inl x5)), (x6, .inl (x7, 16, .inl x8)), (x9, .inl (x10, 8, .inl x11))]
def qa9Q (x0 : Nat) (x1 : Int32) (x2 : Nat) (x3 x4 x5 x6 x7 x8 x9 x10 x11 x12 x13 x14 : Value) (x15 : Nat) (x16 : Value) (x17 : Nat) (x18 x19 x20 : Value) (x21 x22 x23 : Int32) (x24 x25 x26 x27 x28 x29 x30 x31 x32 x33 x34 x35 : Value) (x36 : Int32) (x37 x38 x39 : Value) (x40 x41 : Nat) (x42 x43 x44 : Value) (x45 : Int32) (x46 x47 x48 x49 x50 x51 x52 x53 x54 x55 : Value) (x56 : Nat) (x57 : ClassId) (x58 : NI) (x59 : Nat) (x60 : ClassId) (x61 : NI) : va_W := [(x0, .inr (11, [.int x1, .ref x2, x3, x4, x5, x6, x7, x8, x9, x10, x11, x12, x13, x14, .ref x15, x16, .ref x17, x18, x19, x20, .int x21, .int x22, .int x23, x24, x25, x26, x27, x28, x29, x30, x31, x32, x33, x34, x35, .int x36, x37, x38, x39, .ref x40, .ref x41, x42, x43, x44, .int x45, x46, x47, x48, x49, x50, x51, x52, x53, x54, x55])), (x56, .inl (x57, 16, .inl x58)), (x59, .inl (x60, 8, .inl x61))]
def qAK (x0 : Nat) (x1 : Int32) (x2 x3 x4 x5 x6 x7 x8 x9 x10 x11 x12 x13 x14 x15 x16 x17 x18 x19 x20 x21 x22 x23 x24 x25 x26 x27 x28 x29 x30 x31 x32 x33 x34 : Value) (x35 x36 : Int32) (x37 x38 x39 : Value) (x40 : Nat) (x41 : Value) (x42 : Nat) (x43 x44 x45 x46 x47 x48 x49 x50 x51 x52 x53 x54 x55 : Value) (x56 : Nat) (x57 : ClassId) (x58 : NI) (x59 : Nat) (x60 : ClassId) (x61 : NI) : va_W := [(x0, .inr (11, [.int x1, x2, x3, x4, x5, x6, x7, x8, x9, x10, x11, x12, x13, x14, x15, x16, x17, x18, x19, x20, x21, x22, x23, x24, x25, x26, x27, x28, x29, x30, x31, x32, x33, x34, .int x35, .int x36, x37, x38, x39, .ref x40, x41, .ref x42, x43, x44, x45, x46, x47, x48, x49, x50, x51, x52, x53, x54, x55])), (x56, .inl (x57, 1088, .inl x58)), (x59, .inl (x60, 68, .inl x61))]
def qbu (x0 : Nat) (x1 : Int32) (x2 : Nat) (x3 x4 x5 x6 x7 x8 x9 x10 x11 x12 x13 x14 : Value) (x15 : Nat) (x16 x17 x18 x19 x20 : Value) (x21 : Int32) (x22 x23 x24 x25 x26 x27 x28 x29 x30 x31 x32 x33 x34 x35 x36 x37 x38 x39 x40 x41 x42 x43 x44 x45 x46 x47 x48 x49 x50 x51 x52 x53 x54 x55 : Value) (x56 : Nat) (x57 : ClassId) (x58 : NI) (x59 : Nat) (x60 : ClassId) (x61 : NI) : va_W := [(x0, .inr (11, [.int x1, .ref x2, x3, x4, x5, x6, x7, x8, x9, x10, x11, x12, x13, x14, .ref x15, x16, x17, x18, x19, x20, .int x21, x22, x23, x24, x25, x26, x27, x28, x29, x30, x31, x32, x33, x34, x35, x36, x37, x38, x39, x40, x41, x42, x43, x44, x45, x46, x47, x48, x49, x50, x51, x52, x53, x54, x55])), (x56, .inl (x57, 2, .inl x58)), (x59, .inl (x60, 16, .inl x61))]
def qa9r (x0 : Nat) (x1 : Int32) (x2 : Nat) (x3 x4 x5 x6 x7 x8 x9 x10 x11 x12 x13 x14 : Value) (x15 : Nat) (x16 x17 x18 x19 x20 : Value) (x21 : Int32) (x22 x23 x24 x25 x26 x27 x28 x29 x30 x31 x32 x33 x34 x35 x36 x37 x38 x39 x40 x41 x42 x43 x44 x45 x46 x47 x48 x49 x50 x51 x52 x53 x54 x55 : Value) (x56 : Nat) (x57 : ClassId) (x58 : NI) : va_W := [(x0, .inr (11, [.int x1, .ref x2, x3, x4, x5, x6, x7, x8, x9, x10, x11, x12, x13, x14, .ref x15, x16, x17, x18, x19, x20, .int x21, x22, x23, x24, x25, x26, x27, x28, x29, x30, x31, x32, x33, x34, x35, x36, x37, x38, x39, x40, x41, x42, x43, x44, x45, x46, x47, x48, x49, x50, x51, x52, x53, x54, x55])), (x56, .inl (x57, 16, .inl x58))]
def qa58 (x0 : Nat) (x1 : Int32) (x2 : Nat) (x3 x4 x5 x6 x7 x8 x9 x10 x11 x12 x13 x14 : Value) (x15 : Nat) (x16 x17 x18 x19 x20 : Value) (x21 : Int32) (x22 x23 x24 x25 x26 x27 x28 x29 x30 x31 x32 x33 x34 x35 x36 x37 x38 x39 x40 x41 x42 x43 x44 x45 x46 x47 x48 x49 x50 x51 x52 x53 x54 x55 : Value) (x56 : Nat) (x57 : ClassId) (x58 : NI) : va_W := [(x0, .inr (11, [.int x1, .ref x2, x3, x4, x5, x6, x7, x8, x9, x10, x11, x12, x13, x14, .ref x15, x16, x17, x18, x19, x20, .int x21, x22, x23, x24, x25, x26, x27, x28, x29, x30, x31, x32, x33, x34, x35, x36, x37, x38, x39, x40, x41, x42, x43, x44, x45, x46, x47, x48, x49, x50, x51, x52, x53, x54, x55])), (x56, .inl (x57, 2, .inl x58))]
def qp8 (x0 : Nat) (x1 : Int32) (x2 : Nat) (x3 x4 x5 x6 x7 x8 x9 x10 x11 x12 x13 x14 x15 x16 x17 x18 x19 x20 x21 x22 x23 x24 x25 : Value) (x26 x27 x28 : Nat) (x29 : Value) (x30 : Int32) (x31 : Nat) (x32 x33 x34 x35 x36 x37 x38 x39 x40 x41 x42 x43 x44 x45 x46 x47 x48 x49 x50 x51 x52 x53 x54 x55 : Value) (x56 : Nat) (x57 : ClassId) (x58 : NI) (x59 : Nat) (x60 : ClassId) (x61 : NI) (x62 : Nat) (x63 : ClassId) (x64 : NI) (x65 : Nat) (x66 : ClassId) (x67 : NI) (x68 : Nat) (x69 : ClassId) (x70 : NI) : va_W := [(x0, .inr (11, [.int x1, .ref x2, x3, x4, x5, x6, x7, x8, x9, x10, x11, x12, x13, x14, x15, x16, x17, x18, x19, x20, x21, x22, x23, x24, x25, .ref x26, .ref x27, .ref x28, x29, .int x30, .ref x31, x32, x33, x34, x35, x36, x37, x38, x39, x40, x41, x42, x43, x44, x45, x46, x47, x48, x49, x50, x51, x52, x53, x54, x55])), (x56, .inl (x57, 2, .inl x58)), (x59, .inl (x60, 8, .inl x61)), (x62, .inl (x63, 150, .inl x64)), (x65, .inl (x66, 150, .inl x67)), (x68, .inl (x69, 150, .inl x70))]
def qa94 (x0 : Nat) (x1 : Int32) (x2 : Nat) (x3 x4 x5 x6 x7 x8 x9 x10 x11 x12 x13 x14 x15 x16 x17 x18 x19 x20 x21 x22 x23 x24 x25 : Value) (x26 x27 x28 : Nat) (x29 : Value) (x30 : Int32) (x31 : Nat) (x32 x33 x34 x35 x36 x37 x38 x39 x40 x41 x42 x43 x44 x45 x46 x47 x48 x49 x50 x51 x52 x53 x54 x55 : Value) (x56 : Nat) (x57 : ClassId) (x58 : NI) : va_W := [(x0, .inr (11, [.int x1, .ref x2, x3, x4, x5, x6, x7, x8, x9, x10, x11, x12, x13, x14, x15, x16, x17, x18, x19, x20, x21, x22, x23, x24, x25, .ref x26, .ref x27, .ref x28, x29, .int x30, .ref x31, x32, x33, x34, x35, x36, x37, x38, x39, x40, x41, x42, x43, x44, x45, x46, x47, x48, x49, x50, x51, x52, x53, x54, x55])), (x56, .inl (x57, 2, .inl x58))]
def qa6d (x0 : Nat) (x1 : Int32) (x2 : Nat) (x3 x4 x5 x6 x7 x8 x9 x10 x11 x12 x13 x14 x15 x16 x17 x18 x19 x20 x21 x22 x23 x24 x25 : Value) (x26 x27 x28 : Nat) (x29 : Value) (x30 : Int32) (x31 : Nat) (x32 x33 x34 x35 x36 x37 x38 x39 x40 x41 x42 x43 x44 x45 x46 x47 x48 x49 x50 x51 x52 x53 x54 x55 : Value) (x56 : Nat) (x57 : ClassId) (x58 : NI) (x59 : Nat) (x60 : ClassId) (x61 : NI) (x62 : Nat) (x63 : ClassId) (x64 : NI) (x65 : Nat) (x66 : ClassId) (x67 : NI) : va_W := [(x0, .inr (11, [.int x1, .ref x2, x3, x4, x5, x6, x7, x8, x9, x10, x11, x12, x13, x14, x15, x16, x17, x18, x19, x20, x21, x22, x23, x24, x25, .ref x26, .ref x27, .ref x28, x29, .int x30, .ref x31, x32, x33, x34, x35, x36, x37, x38, x39, x40, x41, x42, x43, x44, x45, x46, x47, x48, x49, x50, x51, x52, x53, x54, x55])), (x56, .inl (x57, 8, .inl x58)), (x59, .inl (x60, 150, .inl x61)), (x62, .inl (x63, 150, .inl x64)), (x65, .inl (x66, 150, .inl x67))]
def qtq (x0 x1 : Nat) (x2 x3 x4 : Int32) (x5 : Value) (x6 : Int32) (x7 : Value) (x8 : Nat) (x9 : ClassId) (x10 : NI) : va_W := [(x0, .inr (8, [.ref x1, .int x2, .int x3, .int x4, x5, .int x6, x7])), (x8, .inl (x9, 600, .inl x10))]
def qa40 (x0 x1 : Nat) (x2 x3 x4 : Int32) (x5 : Value) (x6 : Int32) (x7 : Value) : va_W := [(x0, .inr (8, [.ref x1, .int x2, .int x3, .int x4, x5, .int x6, x7]))]
def qu9 (x0 x1 x2 : Nat) (x3 x4 : Value) (x5 : Int32) (x6 x7 : Nat) (x8 x9 x10 : Int32) (x11 : Value) (x12 x13 : Int32) (x14 : Nat) (x15 : ClassId) (x16 : NI) (x17 : Nat) (x18 : ClassId) (x19 : NI) (x20 : Nat) (x21 : ClassId) (x22 : NI) : va_W := [(x0, .inr (4, [.ref x1, .ref x2, x3, x4, .int x5])), (x6, .inr (8, [.ref x7, .int x8, .int x9, .int x10, x11, .int x12, .int x13])), (x14, .inl (x15, 600, .inl x16)), (x17, .inl (x18, 150, .inl x19)), (x20, .inl (x21, 150, .inl x22))]
def qt2 (x0 x1 : Nat) (x2 x3 x4 : Int32) (x5 : Value) (x6 x7 : Int32) (x8 : Nat) (x9 : ClassId) (x10 : NI) : va_W := [(x0, .inr (8, [.ref x1, .int x2, .int x3, .int x4, x5, .int x6, .int x7])), (x8, .inl (x9, 600, .inl x10))]
def quM (x0 x1 x2 : Nat) (x3 x4 : Value) (x5 : Int32) (x6 : Nat) (x7 : ClassId) (x8 : NI) (x9 : Nat) (x10 : ClassId) (x11 : NI) : va_W := [(x0, .inr (4, [.ref x1, .ref x2, x3, x4, .int x5])), (x6, .inl (x7, 150, .inl x8)), (x9, .inl (x10, 150, .inl x11))]
theorem q1I : ∀ w ∈ u_ws RX11 TX11 55, w ∈ wsX11_seat := uiM qJA qfa (by decide +kernel)
theorem qaF7 : (.fieldLink RX11 3 "MarchHaresModel" "thrown" "I" : Cond) ∈ wsX11_seat := qJA 589 (by decide +kernel)
theorem qazT : (.fieldLink RX11 86 "MarchHaresModel" "seatOf" "[I" : Cond) ∈ wsX11_seat := qJA 462 (by decide +kernel)
set_option maxHeartbeats 4000000 in
set_option maxRecDepth 100000 in
theorem qaYc (l : Launch) (dC : Nat → ClassId) (dI : Nat → Nat → Nat) (cyB cyI cyJ cyP : ClassId) (a0 jaQ jaT a0_s ja5 jbu jbB jbG jbg jbJ jiO jiY jiT sz : Nat) (jaD ja7 jby jbe jaM jaY jap jaK jal jam jax jao jaV jae jag jaf jaw jaI jan jar jaL jah jaB jaa jaz jaH jab jaq jai jaO jaA jaj jas jaJ jak jad jay jac : Value) (jaN jaC jbw jbD : Int32) (jb2 jbv jcu jbT jcy : NI) (jbd : Int32) (ja9 f0_s jb1 jcb jjl jjp jjq : NI) (p1 : Int32) {Q : Int32 → Int32 → NI → NI → NI → NI → NI → NI → NI → Prop} (hw : qacB jaN jaC jbw jbD jb2 jbv jcu jbT jcy jbd ja9 f0_s jb1 jcb jjl jjp jjq p1 Q) : Met l yX11_seat wsX11_seat ({ frames := 8, cells := 0, slots := 0, locals := 185 }) (va_Pc [.ref a0, .int p1] (cPc (dC, dI) (kT cyB cyI cyJ cyP) (q2M a0 jbd jaQ jaD ja7 jby jbe jaM jaY jap jaK jal jam jax jao ja5 jaV jbJ jae jag jaf jaN jaC jbw jaw jaI jbG jbg jbB jan jbD jbu jar jaL jah jaB jaa jaz jaH jab jaT a0_s jaq jai jaO jaA jiO jiT jiY jaj jas jaJ jak jad jay jac jaQ cyI ja9 jaT cyI jb2 a0_s cyI f0_s ja5 cyI jbv jbu cyI jb1 jbB cyI jcb jbG cyI jcu jbg cyI jbT jbJ cyI jcy jiO cyI jjl jiY cyI jjp jiT cyI jjq) sz)) (va_Qi (fun (r : Int32) (u : Int32 × NI × NI × NI × NI × NI × NI × NI) => Q r u.1 u.2.1 u.2.2.1 u.2.2.2.1 u.2.2.2.2.1 u.2.2.2.2.2.1 u.2.2.2.2.2.2.1 u.2.2.2.2.2.2.2) (cB (dC, dI) (kT cyB cyI cyJ cyP) (va_A (q2M a0 jbd jaQ jaD ja7 jby jbe jaM jaY jap jaK jal jam jax jao ja5 jaV jbJ jae jag jaf jaN jaC jbw jaw jaI jbG jbg jbB jan jbD jbu jar jaL jah jaB jaa jaz jaH jab jaT a0_s jaq jai jaO jaA jiO jiT jiY jaj jas jaJ jak jad jay jac jaQ cyI ja9 jaT cyI jb2 a0_s cyI f0_s ja5 cyI jbv jbu cyI jb1 jbB cyI jcb jbG cyI jcu jbg cyI jbT jbJ cyI jcy jiO cyI jjl jiY cyI jjp jiT cyI jjq) sz) (fun u : Int32 × NI × NI × NI × NI × NI × NI × NI => ((q2M a0 u.1 jaQ jaD ja7 jby jbe jaM jaY jap jaK jal jam jax jao ja5 jaV jbJ jae jag jaf jaN jaC jbw jaw jaI jbG jbg jbB jan jbD jbu jar jaL jah jaB jaa jaz jaH jab jaT a0_s jaq jai jaO jaA jiO jiT jiY jaj jas jaJ jak jad jay jac jaQ cyI u.2.1 jaT cyI jb2 a0_s cyI u.2.2.1 ja5 cyI jbv jbu cyI u.2.2.2.1 jbB cyI u.2.2.2.2.1 jbG cyI jcu jbg cyI jbT jbJ cyI jcy jiO cyI u.2.2.2.2.2.1 jiY cyI u.2.2.2.2.2.2.1 jiT cyI u.2.2.2.2.2.2.2) : va_W))) (va_A (q2M a0 jbd jaQ jaD ja7 jby jbe jaM jaY jap jaK jal jam jax jao ja5 jaV jbJ jae jag jaf jaN jaC jbw jaw jaI jbG jbg jbB jan jbD jbu jar jaL jah jaB jaa jaz jaH jab jaT a0_s jaq jai jaO jaA jiO jiT jiY jaj jas jaJ jak jad jay jac jaQ cyI ja9 jaT cyI jb2 a0_s cyI f0_s ja5 cyI jbv jbu cyI jb1 jbB cyI jcb jbG cyI jcu jbg cyI jbT jbJ cyI jcy jiO cyI jjl jiY cyI jjp jiT cyI jjq) sz)) 0 0 (va_A (q2M a0 jbd jaQ jaD ja7 jby jbe jaM jaY jap jaK jal jam jax jao ja5 jaV jbJ jae jag jaf jaN jaC jbw jaw jaI jbG jbg jbB jan jbD jbu jar jaL jah jaB jaa jaz jaH jab jaT a0_s jaq jai jaO jaA jiO jiT jiY jaj jas jaJ jak jad jay jac jaQ cyI ja9 jaT cyI jb2 a0_s cyI f0_s ja5 cyI jbv jbu cyI jb1 jbB cyI jcb jbG cyI jcu jbg cyI jbT jbJ cyI jcy jiO cyI jjl jiY cyI jjp jiT cyI jjq) sz) := by
  refine Met.ofW (cc := cX11_seat) (maxL := 2) (ret := (some .int)) (by decide) rfl ?_
  intro p e s m args below meth c s₁ B hml hv
  obtain ⟨rfl, hsz, hP, hK, hD0, hNw⟩ := hv
  have hx := B.exec
  have hb := B.bytes
  have hr := B.returns
  have hts := atoms_spec (ws := wsX11_seat) B.pre
  have hown : s.vm.findClass RX11 = some m.cls := findClass_of_methodNamed B.named
  have hlocks := B.notSynchronized
  subst hsz
  have hD := hD0.self (sz := s.heap.size)
  generalize hAe : va_A (q2M a0 jbd jaQ jaD ja7 jby jbe jaM jaY jap jaK jal jam jax jao ja5 jaV jbJ jae jag jaf jaN jaC jbw jaw jaI jbG jbg jbB jan jbD jbu jar jaL jah jaB jaa jaz jaH jab jaT a0_s jaq jai jaO jaA jiO jiT jiY jaj jas jaJ jak jad jay jac jaQ cyI ja9 jaT cyI jb2 a0_s cyI f0_s ja5 cyI jbv jbu cyI jb1 jbB cyI jcb jbG cyI jcu jbg cyI jbT jbJ cyI jcy jiO cyI jjl jiY cyI jjp jiT cyI jjq) s.heap.size = A at hD ⊢
  have hA : ∀ q : Nat, s.heap.size ≤ q → A q := fun q h => by rw [← hAe]; exact Or.inr h
  have hS : va_S A s.heap s.heap [] := va_S.rf
  have hP : va_P (dC, dI) vwCl (q2M a0 jbd jaQ jaD ja7 jby jbe jaM jaY jap jaK jal jam jax jao ja5 jaV jbJ jae jag jaf jaN jaC jbw jaw jaI jbG jbg jbB jan jbD jbu jar jaL jah jaB jaa jaz jaH jab jaT a0_s jaq jai jaO jaA jiO jiT jiY jaj jas jaJ jak jad jay jac jaQ cyI ja9 jaT cyI jb2 a0_s cyI f0_s ja5 cyI jbv jbu cyI jb1 jbB cyI jcb jbG cyI jcu jbg cyI jbT jbJ cyI jcy jiO cyI jjl jiY cyI jjp jiT cyI jjq) s.heap := hP
  have hl := lv_entry ([.ref a0, .int p1]) (n := 2) (nbq rfl)
  rw [lg_entry_eq]
  generalize (lg_sl ([.ref a0, .int p1]) ++ List.replicate (2 - (lg_sl ([.ref a0, .int p1])).length) Slot.unset).toArray = ls at hl ⊢
  have hl : lv_has ls 2 [(0, .ref a0), (1, .int p1)] := hl
  have C0 : cfx p s m _ meth c cX11_seat (some .int) wsX11_seat RX11 2 A (dC, dI) (kT cyB cyI cyJ cyP) := ⟨hx, hb, hr, hts, hown, hlocks, hml, hA, hK, hNw⟩
  clear hAe
  obtain ⟨H, hH⟩ : ∃ H, H = s.heap := ⟨_, rfl⟩
  rw [← hH] at hP ⊢
  have hS : va_S A s.heap H [] := by rw [hH]; exact va_S.rf
  have hS := hS
  refine lv_aload_n hx hb (qaa qmp 0 rfl) rfl (lv_at hl 0 rfl) ?_
  refine lv_iconst (v := 0) hx hb (qaa qmp 1 rfl) (by decide) ?_
  refine va_put (D := (dC, dI)) (ci := 11) (v := .int 0) (ty := .int) (C := RX11) (T := TX11) (N := 55) hx hb hts q1I tyX11 tyX11_ok nmX11 hown hK hP hD hS 0 rfl rfl 0 (by decide) (hts _ qaF7) (fun _ h9 => h9) rfl (by decide +kernel) rfl rfl (nbq rfl) (qaa qmp 2 rfl) (fun H locs hP hD hS => ?_)
  have hP : va_P (dC, dI) vwCl (q2M a0 0 jaQ jaD ja7 jby jbe jaM jaY jap jaK jal jam jax jao ja5 jaV jbJ jae jag jaf jaN jaC jbw jaw jaI jbG jbg jbB jan jbD jbu jar jaL jah jaB jaa jaz jaH jab jaT a0_s jaq jai jaO jaA jiO jiT jiY jaj jas jaJ jak jad jay jac jaQ cyI ja9 jaT cyI jb2 a0_s cyI f0_s ja5 cyI jbv jbu cyI jb1 jbB cyI jcb jbG cyI jcu jbg cyI jbT jbJ cyI jcy jiO cyI jjl jiY cyI jjp jiT cyI jjq) H := hP
  have hD : va_D A (q2M a0 0 jaQ jaD ja7 jby jbe jaM jaY jap jaK jal jam jax jao ja5 jaV jbJ jae jag jaf jaN jaC jbw jaw jaI jbG jbg jbB jan jbD jbu jar jaL jah jaB jaa jaz jaH jab jaT a0_s jaq jai jaO jaA jiO jiT jiY jaj jas jaJ jak jad jay jac jaQ cyI ja9 jaT cyI jb2 a0_s cyI f0_s ja5 cyI jbv jbu cyI jb1 jbB cyI jcb jbG cyI jcu jbg cyI jbT jbJ cyI jcy jiO cyI jjl jiY cyI jjp jiT cyI jjq) := hD
  refine lv_aload_n hx hb (qaa qmp 3 rfl) rfl (lv_at hl 0 rfl) ?_
  refine lv_iload_n hx hb (qaa qmp 4 rfl) rfl (lv_at hl 1 rfl) ?_
  refine lv_iconst (v := 1) hx hb (qaa qmp 5 rfl) (by decide) ?_
  obtain ⟨hCc, hPc, hDc, hFc⟩ := qac (ws' := (qbeh a0 0 jaQ jaD ja7 jby jbe jaM jaY jap jaK jal jam jax jao ja5 jaV jbJ jae jag jaf jaN jaC jbw jaw jaI jbG jbg jbB jan jbD jbu jar jaL jah jaB jaa jaz jaH jab jaT a0_s jaq jai jaO jaA jiO jiT jiY jaj jas jaJ jak jad jay jac jaQ cyI ja9)) hP hD hS hA [0, 1] (by decide +kernel) rfl
  refine va_calli (va_runV (As := [.int p1, .int 1]) (rest := []) ⟨hx, hb, hml, hown, hts⟩ (qtR l dC dI cyB cyI cyJ cyP a0 jaQ H.size (jaD) (ja7) (jby) (jbe) (jaM) (jaY) (jap) (jaK) (jal) (jam) (jax) (jao) (.ref ja5) (jaV) (.ref jbJ) (jae) (jag) (jaf) (.int jaN) (.int jbw) (jaw) (jaI) (.ref jbG) (.ref jbg) (.ref jbB) (jan) (.int jbD) (.ref jbu) (jar) (jaL) (jah) (jaB) (jaa) (jaz) (jaH) (jab) (.ref jaT) (.ref a0_s) (jaq) (jai) (jaO) (jaA) (.ref jiO) (.ref jiT) (.ref jiY) (jaj) (jas) (jaJ) (jak) (jad) (jay) (jac) jaC 0 ja9 p1 1 hw) (cwV 2 hts gX11_seat_X11_isHare rfl rfl rfl (by decide +kernel) ⟨nbq rfl, nbq rfl⟩) ⟨qab, va_recv (q := (RX11, TX11, 55)) hK hPc (ci := 11) (q0 := 0) rfl rfl, qae hPc hK hDc hNw⟩ rfl rfl hl.1 rfl (lv_room (nbq rfl)) (qaa qmp 6 rfl) ⟨nbq rfl, nbq rfl⟩) hS (fun q _ h => hFc q h) hFc (fun r3 u t H1 locs ht hvm hw hB hz1 hk1 hS => ?_)
  obtain ⟨x1, f2⟩ := u
  obtain ⟨hP1, hK1, hD1⟩ := hB
  rw [ht] at hP1
  obtain ⟨hP, hD⟩ := qad (wr := [(jaT, .inl (cyI, 68, .inl jb2)), (a0_s, .inl (cyI, 68, .inl f0_s)), (ja5, .inl (cyI, 16, .inl jbv)), (jbu, .inl (cyI, 8, .inl jb1)), (jbB, .inl (cyI, 150, .inl jcb)), (jbG, .inl (cyI, 150, .inl jcu)), (jbg, .inl (cyI, 150, .inl jbT)), (jbJ, .inl (cyI, 8, .inl jcy)), (jiO, .inl (cyI, 1792, .inl jjl)), (jiY, .inl (cyI, 6, .inl jjp)), (jiT, .inl (cyI, 6, .inl jjq))]) (w1 := (qbeh a0 x1 jaQ jaD ja7 jby jbe jaM jaY jap jaK jal jam jax jao ja5 jaV jbJ jae jag jaf jaN jaC jbw jaw jaI jbG jbg jbB jan jbD jbu jar jaL jah jaB jaa jaz jaH jab jaT a0_s jaq jai jaO jaA jiO jiT jiY jaj jas jaJ jak jad jay jac jaQ cyI f2)) (wn := (q2M a0 x1 jaQ jaD ja7 jby jbe jaM jaY jap jaK jal jam jax jao ja5 jaV jbJ jae jag jaf jaN jaC jbw jaw jaI jbG jbg jbB jan jbD jbu jar jaL jah jaB jaa jaz jaH jab jaT a0_s jaq jai jaO jaA jiO jiT jiY jaj jas jaJ jak jad jay jac jaQ cyI f2 jaT cyI jb2 a0_s cyI f0_s ja5 cyI jbv jbu cyI jb1 jbB cyI jcb jbG cyI jcu jbg cyI jbT jbJ cyI jcy jiO cyI jjl jiY cyI jjp jiT cyI jjq)) hP hD [0, 1] [2, 3, 4, 5, 6, 7, 8, 9, 10, 11, 12] [11, 12, 0, 1, 2, 3, 4, 5, 6, 7, 8, 9, 10] hCc rfl (by decide +kernel) (by decide +kernel) (by decide +kernel) rfl hk1 hFc hP1 hD1
  generalize H1 = H at hP hS ⊢
  refine lv_if_ne (tgt := 16) hx hb (qaa qmp 7 rfl) (by decide) (fun c4 => ?_) (fun c4 => ?_)
  · have hw := hw.1 c4
    refine lv_aload_n hx hb (qaa qmp 10 rfl) rfl (lv_at hl 0 rfl) ?_
    obtain ⟨hCc, hPc, hDc, hFc⟩ := qac (ws' := (qbcv a0 x1 jaQ jaD ja7 jby jbe jaM jaY jap jaK jal jam jax jao ja5 jaV jbJ jae jag jaf jaN jaC jbw jaw jaI jbG jbg jbB jan jbD jbu jar jaL jah jaB jaa jaz jaH jab jaT a0_s jaq jai jaO jaA jiO jiT jiY jaj jas jaJ jak jad jay jac jaT cyI jb2 a0_s cyI f0_s ja5 cyI jbv jbu cyI jb1 jbB cyI jcb jbG cyI jcu jbg cyI jbT jbJ cyI jcy jiO cyI jjl jiY cyI jjp jiT cyI jjq)) hP hD hS hA [0, 2, 3, 4, 5, 6, 7, 8, 9, 10, 11, 12] (by decide +kernel) rfl
    refine va_callv (va_runV (As := []) (rest := []) ⟨hx, hb, hml, hown, hts⟩ (qZP l dC dI cyB cyI cyJ cyP a0 jaT a0_s jiY ja5 jbu jbB jbG jbg jbJ jiO jiT H.size (.int x1) (.ref jaQ) (jaD) (ja7) (jby) (jbe) (jaM) (jaY) (jap) (jaK) (jal) (jam) (jax) (jao) (jaV) (jae) (jag) (jaf) (jaw) (jaI) (jan) (jar) (jaL) (jah) (jaB) (jaa) (jaz) (jaH) (jab) (jaq) (jai) (jaO) (jaA) (jaj) (jas) (jaJ) (jak) (jad) (jay) (jac) jaN jaC jbw jbD jb2 jbv jcu jbT jcy f0_s jb1 jcb jjl jjp jjq hw) (cwV 0 hts gX11_seat_X11_findSeats rfl rfl rfl (by decide +kernel) ⟨nbq rfl, nbq rfl⟩) ⟨qab, va_recv (q := (RX11, TX11, 55)) hK hPc (ci := 11) (q0 := 0) rfl rfl, qae hPc hK hDc hNw⟩ rfl rfl hl.1 rfl (lv_room (nbq rfl)) (qaa qmp 11 rfl) ⟨nbq rfl, nbq rfl⟩) hS (fun q _ h => hFc q h) hFc (fun u t H1 locs ht hvm hw hB hz1 hk1 hS => ?_)
    obtain ⟨f5, f6, f7, f8, f9, f10⟩ := u
    obtain ⟨hP1, hK1, hD1⟩ := hB
    rw [ht] at hP1
    obtain ⟨hP, hD⟩ := qad (wr := [(jaQ, .inl (cyI, 2, .inl f2))]) (w1 := (qbcv a0 x1 jaQ jaD ja7 jby jbe jaM jaY jap jaK jal jam jax jao ja5 jaV jbJ jae jag jaf jaN jaC jbw jaw jaI jbG jbg jbB jan jbD jbu jar jaL jah jaB jaa jaz jaH jab jaT a0_s jaq jai jaO jaA jiO jiT jiY jaj jas jaJ jak jad jay jac jaT cyI jb2 a0_s cyI f5 ja5 cyI jbv jbu cyI f6 jbB cyI f7 jbG cyI jcu jbg cyI jbT jbJ cyI jcy jiO cyI f8 jiY cyI f9 jiT cyI f10)) (wn := (q2M a0 x1 jaQ jaD ja7 jby jbe jaM jaY jap jaK jal jam jax jao ja5 jaV jbJ jae jag jaf jaN jaC jbw jaw jaI jbG jbg jbB jan jbD jbu jar jaL jah jaB jaa jaz jaH jab jaT a0_s jaq jai jaO jaA jiO jiT jiY jaj jas jaJ jak jad jay jac jaQ cyI f2 jaT cyI jb2 a0_s cyI f5 ja5 cyI jbv jbu cyI f6 jbB cyI f7 jbG cyI jcu jbg cyI jbT jbJ cyI jcy jiO cyI f8 jiY cyI f9 jiT cyI f10)) hP hD [0, 2, 3, 4, 5, 6, 7, 8, 9, 10, 11, 12] [1] [1, 0, 2, 3, 4, 5, 6, 7, 8, 9, 10, 11, 12] hCc rfl (by decide +kernel) (by decide +kernel) (by decide +kernel) rfl hk1 hFc hP1 hD1
    generalize H1 = H at hP hS ⊢
    refine lv_aload_n hx hb (qaa qmp 12 rfl) rfl (lv_at hl 0 rfl) ?_
    refine va_get (D := (dC, dI)) (ci := 11) (v := .ref jiT) (C := RX11) (T := TX11) (N := 55) hx hb hts q1I hown hK hP 0 rfl rfl 46 (by decide) (hts _ qazT) (fun _ h9 => h9) rfl (qaa qmp 13 rfl) ?_
    refine lv_iload_n hx hb (qaa qmp 14 rfl) rfl (lv_at hl 1 rfl) ?_
    obtain ⟨hi9, hw⟩ := hw
    refine va_iald hx hb hK hP 12 1 rfl rfl hi9 (qaa qmp 15 rfl) ?_
    refine lv_topi (fun x11 ex11 => ?_)
    have hw := hw x11 ex11
    exact ((W.iret (v := x11) hx hb hr (fun t ht hW => ⟨⟨x11, (x1, f2, f5, f6, f7, f8, f9, f10), rfl, hw, by rw [ht]; exact hP, va_K.moved hW.alike hK, hD⟩, hS.F ht⟩) hS.2.2 (qaa qaKd 0 rfl)))
  · have hw := hw.2 c4
    refine lv_iconst (v := 0) hx hb (qaa qmp 8 rfl) (by decide) ?_
    exact ((W.iret (v := 0) hx hb hr (fun t ht hW => ⟨⟨0, (x1, f2, f0_s, jb1, jcb, jjl, jjp, jjq), rfl, hw, by rw [ht]; exact hP, va_K.moved hW.alike hK, hD⟩, hS.F ht⟩) hS.2.2 (qaa qmp 9 rfl)))
theorem qZz : ∀ w ∈ u_ws RX11 TX11 55, w ∈ wsX11_seats := uiM qOY qfa (by decide +kernel)
theorem qaCb : (.fieldLink RX11 3 "MarchHaresModel" "thrown" "I" : Cond) ∈ wsX11_seats := qOY 589 (by decide +kernel)
theorem qaun : (.fieldLink RX11 83 "MarchHaresModel" "mostOn" "[I" : Cond) ∈ wsX11_seats := qOY 461 (by decide +kernel)
set_option maxHeartbeats 4000000 in
set_option maxRecDepth 100000 in
theorem qaV1 (l : Launch) (dC : Nat → ClassId) (dI : Nat → Nat → Nat) (cyB cyI cyJ cyP : ClassId) (a0 jaT a0_s ja5 jbu jbB jbG jbg jbJ jiO jiY jiT sz : Nat) (jaF jaD ja7 jby jbe jaM jaY jap jaK jal jam jax jao jaV jae jag jaf jaw jaI jan jar jaL jah jaB jaa jaz jaH jab jaq jai jaO jaA jaj jas jaJ jak jad jay jac : Value) (jaN jaC jbw jbD : Int32) (jb2 jbv jcu jbT jcy : NI) (jbd : Int32) (f0_s jb1 jcb jjl jjp jjq : NI) {Q : Int32 → Int32 → NI → NI → NI → NI → NI → NI → Prop} (hw : q0Z jaN jaC jbw jbD jb2 jbv jcu jbT jcy jbd f0_s jb1 jcb jjl jjp jjq Q) : Met l yX11_seats wsX11_seats ({ frames := 8, cells := 0, slots := 0, locals := 185 }) (va_Pc [.ref a0] (cPc (dC, dI) (kT cyB cyI cyJ cyP) (qYQ a0 jbd jaF jaD ja7 jby jbe jaM jaY jap jaK jal jam jax jao ja5 jaV jbJ jae jag jaf jaN jaC jbw jaw jaI jbG jbg jbB jan jbD jbu jar jaL jah jaB jaa jaz jaH jab jaT a0_s jaq jai jaO jaA jiO jiT jiY jaj jas jaJ jak jad jay jac jaT cyI jb2 a0_s cyI f0_s ja5 cyI jbv jbu cyI jb1 jbB cyI jcb jbG cyI jcu jbg cyI jbT jbJ cyI jcy jiO cyI jjl jiY cyI jjp jiT cyI jjq) sz)) (va_Qi (fun (r : Int32) (u : Int32 × NI × NI × NI × NI × NI × NI) => Q r u.1 u.2.1 u.2.2.1 u.2.2.2.1 u.2.2.2.2.1 u.2.2.2.2.2.1 u.2.2.2.2.2.2) (cB (dC, dI) (kT cyB cyI cyJ cyP) (va_A (qYQ a0 jbd jaF jaD ja7 jby jbe jaM jaY jap jaK jal jam jax jao ja5 jaV jbJ jae jag jaf jaN jaC jbw jaw jaI jbG jbg jbB jan jbD jbu jar jaL jah jaB jaa jaz jaH jab jaT a0_s jaq jai jaO jaA jiO jiT jiY jaj jas jaJ jak jad jay jac jaT cyI jb2 a0_s cyI f0_s ja5 cyI jbv jbu cyI jb1 jbB cyI jcb jbG cyI jcu jbg cyI jbT jbJ cyI jcy jiO cyI jjl jiY cyI jjp jiT cyI jjq) sz) (fun u : Int32 × NI × NI × NI × NI × NI × NI => ((qYQ a0 u.1 jaF jaD ja7 jby jbe jaM jaY jap jaK jal jam jax jao ja5 jaV jbJ jae jag jaf jaN jaC jbw jaw jaI jbG jbg jbB jan jbD jbu jar jaL jah jaB jaa jaz jaH jab jaT a0_s jaq jai jaO jaA jiO jiT jiY jaj jas jaJ jak jad jay jac jaT cyI jb2 a0_s cyI u.2.1 ja5 cyI jbv jbu cyI u.2.2.1 jbB cyI u.2.2.2.1 jbG cyI jcu jbg cyI jbT jbJ cyI jcy jiO cyI u.2.2.2.2.1 jiY cyI u.2.2.2.2.2.1 jiT cyI u.2.2.2.2.2.2) : va_W))) (va_A (qYQ a0 jbd jaF jaD ja7 jby jbe jaM jaY jap jaK jal jam jax jao ja5 jaV jbJ jae jag jaf jaN jaC jbw jaw jaI jbG jbg jbB jan jbD jbu jar jaL jah jaB jaa jaz jaH jab jaT a0_s jaq jai jaO jaA jiO jiT jiY jaj jas jaJ jak jad jay jac jaT cyI jb2 a0_s cyI f0_s ja5 cyI jbv jbu cyI jb1 jbB cyI jcb jbG cyI jcu jbg cyI jbT jbJ cyI jcy jiO cyI jjl jiY cyI jjp jiT cyI jjq) sz)) 0 0 (va_A (qYQ a0 jbd jaF jaD ja7 jby jbe jaM jaY jap jaK jal jam jax jao ja5 jaV jbJ jae jag jaf jaN jaC jbw jaw jaI jbG jbg jbB jan jbD jbu jar jaL jah jaB jaa jaz jaH jab jaT a0_s jaq jai jaO jaA jiO jiT jiY jaj jas jaJ jak jad jay jac jaT cyI jb2 a0_s cyI f0_s ja5 cyI jbv jbu cyI jb1 jbB cyI jcb jbG cyI jcu jbg cyI jbT jbJ cyI jcy jiO cyI jjl jiY cyI jjp jiT cyI jjq) sz) := by
  refine Met.ofW (cc := cX11_seats) (maxL := 1) (ret := (some .int)) (by decide) rfl ?_
  intro p e s m args below meth c s₁ B hml hv
  obtain ⟨rfl, hsz, hP, hK, hD0, hNw⟩ := hv
  have hx := B.exec
  have hb := B.bytes
  have hr := B.returns
  have hts := atoms_spec (ws := wsX11_seats) B.pre
  have hown : s.vm.findClass RX11 = some m.cls := findClass_of_methodNamed B.named
  have hlocks := B.notSynchronized
  subst hsz
  have hD := hD0.self (sz := s.heap.size)
  generalize hAe : va_A (qYQ a0 jbd jaF jaD ja7 jby jbe jaM jaY jap jaK jal jam jax jao ja5 jaV jbJ jae jag jaf jaN jaC jbw jaw jaI jbG jbg jbB jan jbD jbu jar jaL jah jaB jaa jaz jaH jab jaT a0_s jaq jai jaO jaA jiO jiT jiY jaj jas jaJ jak jad jay jac jaT cyI jb2 a0_s cyI f0_s ja5 cyI jbv jbu cyI jb1 jbB cyI jcb jbG cyI jcu jbg cyI jbT jbJ cyI jcy jiO cyI jjl jiY cyI jjp jiT cyI jjq) s.heap.size = A at hD ⊢
  have hA : ∀ q : Nat, s.heap.size ≤ q → A q := fun q h => by rw [← hAe]; exact Or.inr h
  have hS : va_S A s.heap s.heap [] := va_S.rf
  have hP : va_P (dC, dI) vwCl (qYQ a0 jbd jaF jaD ja7 jby jbe jaM jaY jap jaK jal jam jax jao ja5 jaV jbJ jae jag jaf jaN jaC jbw jaw jaI jbG jbg jbB jan jbD jbu jar jaL jah jaB jaa jaz jaH jab jaT a0_s jaq jai jaO jaA jiO jiT jiY jaj jas jaJ jak jad jay jac jaT cyI jb2 a0_s cyI f0_s ja5 cyI jbv jbu cyI jb1 jbB cyI jcb jbG cyI jcu jbg cyI jbT jbJ cyI jcy jiO cyI jjl jiY cyI jjp jiT cyI jjq) s.heap := hP
  have hl := lv_entry ([.ref a0]) (n := 1) (nbq rfl)
  rw [lg_entry_eq]
  generalize (lg_sl ([.ref a0]) ++ List.replicate (1 - (lg_sl ([.ref a0])).length) Slot.unset).toArray = ls at hl ⊢
  have hl : lv_has ls 1 [(0, .ref a0)] := hl
  have C0 : cfx p s m _ meth c cX11_seats (some .int) wsX11_seats RX11 1 A (dC, dI) (kT cyB cyI cyJ cyP) := ⟨hx, hb, hr, hts, hown, hlocks, hml, hA, hK, hNw⟩
  clear hAe
  obtain ⟨H, hH⟩ : ∃ H, H = s.heap := ⟨_, rfl⟩
  rw [← hH] at hP ⊢
  have hS : va_S A s.heap H [] := by rw [hH]; exact va_S.rf
  have hS := hS
  refine lv_aload_n hx hb (qaa qrO 0 rfl) rfl (lv_at hl 0 rfl) ?_
  refine lv_iconst (v := 0) hx hb (qaa qrO 1 rfl) (by decide) ?_
  refine va_put (D := (dC, dI)) (ci := 11) (v := .int 0) (ty := .int) (C := RX11) (T := TX11) (N := 55) hx hb hts qZz tyX11 tyX11_ok nmX11 hown hK hP hD hS 0 rfl rfl 0 (by decide) (hts _ qaCb) (fun _ h9 => h9) rfl (by decide +kernel) rfl rfl (nbq rfl) (qaa qrO 2 rfl) (fun H locs hP hD hS => ?_)
  have hP : va_P (dC, dI) vwCl (qYQ a0 0 jaF jaD ja7 jby jbe jaM jaY jap jaK jal jam jax jao ja5 jaV jbJ jae jag jaf jaN jaC jbw jaw jaI jbG jbg jbB jan jbD jbu jar jaL jah jaB jaa jaz jaH jab jaT a0_s jaq jai jaO jaA jiO jiT jiY jaj jas jaJ jak jad jay jac jaT cyI jb2 a0_s cyI f0_s ja5 cyI jbv jbu cyI jb1 jbB cyI jcb jbG cyI jcu jbg cyI jbT jbJ cyI jcy jiO cyI jjl jiY cyI jjp jiT cyI jjq) H := hP
  have hD : va_D A (qYQ a0 0 jaF jaD ja7 jby jbe jaM jaY jap jaK jal jam jax jao ja5 jaV jbJ jae jag jaf jaN jaC jbw jaw jaI jbG jbg jbB jan jbD jbu jar jaL jah jaB jaa jaz jaH jab jaT a0_s jaq jai jaO jaA jiO jiT jiY jaj jas jaJ jak jad jay jac jaT cyI jb2 a0_s cyI f0_s ja5 cyI jbv jbu cyI jb1 jbB cyI jcb jbG cyI jcu jbg cyI jbT jbJ cyI jcy jiO cyI jjl jiY cyI jjp jiT cyI jjq) := hD
  refine lv_aload_n hx hb (qaa qrO 3 rfl) rfl (lv_at hl 0 rfl) ?_
  obtain ⟨hCc, hPc, hDc, hFc⟩ := qac (ws' := (qYQ a0 0 jaF jaD ja7 jby jbe jaM jaY jap jaK jal jam jax jao ja5 jaV jbJ jae jag jaf jaN jaC jbw jaw jaI jbG jbg jbB jan jbD jbu jar jaL jah jaB jaa jaz jaH jab jaT a0_s jaq jai jaO jaA jiO jiT jiY jaj jas jaJ jak jad jay jac jaT cyI jb2 a0_s cyI f0_s ja5 cyI jbv jbu cyI jb1 jbB cyI jcb jbG cyI jcu jbg cyI jbT jbJ cyI jcy jiO cyI jjl jiY cyI jjp jiT cyI jjq)) hP hD hS hA [0, 1, 2, 3, 4, 5, 6, 7, 8, 9, 10, 11] (by decide +kernel) rfl
  refine va_callv (va_runV (As := []) (rest := []) ⟨hx, hb, hml, hown, hts⟩ (qZP l dC dI cyB cyI cyJ cyP a0 jaT a0_s jiY ja5 jbu jbB jbG jbg jbJ jiO jiT H.size (.int 0) (jaF) (jaD) (ja7) (jby) (jbe) (jaM) (jaY) (jap) (jaK) (jal) (jam) (jax) (jao) (jaV) (jae) (jag) (jaf) (jaw) (jaI) (jan) (jar) (jaL) (jah) (jaB) (jaa) (jaz) (jaH) (jab) (jaq) (jai) (jaO) (jaA) (jaj) (jas) (jaJ) (jak) (jad) (jay) (jac) jaN jaC jbw jbD jb2 jbv jcu jbT jcy f0_s jb1 jcb jjl jjp jjq hw) (cwV 0 hts gX11_seats_X11_findSeats rfl rfl rfl (by decide +kernel) ⟨nbq rfl, nbq rfl⟩) ⟨qab, va_recv (q := (RX11, TX11, 55)) hK hPc (ci := 11) (q0 := 0) rfl rfl, qae hPc hK hDc hNw⟩ rfl rfl hl.1 rfl (lv_room (nbq rfl)) (qaa qrO 4 rfl) ⟨nbq rfl, nbq rfl⟩) hS (fun q _ h => hFc q h) hFc (fun u t H1 locs ht hvm hw hB hz1 hk1 hS => ?_)
  obtain ⟨f1, f2, f3, f4, f5, f6⟩ := u
  obtain ⟨hP1, hK1, hD1⟩ := hB
  rw [ht] at hP1
  obtain ⟨hP, hD⟩ := qah (wr := []) (w1 := (qYQ a0 0 jaF jaD ja7 jby jbe jaM jaY jap jaK jal jam jax jao ja5 jaV jbJ jae jag jaf jaN jaC jbw jaw jaI jbG jbg jbB jan jbD jbu jar jaL jah jaB jaa jaz jaH jab jaT a0_s jaq jai jaO jaA jiO jiT jiY jaj jas jaJ jak jad jay jac jaT cyI jb2 a0_s cyI f1 ja5 cyI jbv jbu cyI f2 jbB cyI f3 jbG cyI jcu jbg cyI jbT jbJ cyI jcy jiO cyI f4 jiY cyI f5 jiT cyI f6)) (wn := (qYQ a0 0 jaF jaD ja7 jby jbe jaM jaY jap jaK jal jam jax jao ja5 jaV jbJ jae jag jaf jaN jaC jbw jaw jaI jbG jbg jbB jan jbD jbu jar jaL jah jaB jaa jaz jaH jab jaT a0_s jaq jai jaO jaA jiO jiT jiY jaj jas jaJ jak jad jay jac jaT cyI jb2 a0_s cyI f1 ja5 cyI jbv jbu cyI f2 jbB cyI f3 jbG cyI jcu jbg cyI jbT jbJ cyI jcy jiO cyI f4 jiY cyI f5 jiT cyI f6)) hP hD [0, 1, 2, 3, 4, 5, 6, 7, 8, 9, 10, 11] [] hCc rfl (by decide +kernel) (by decide +kernel) rfl hk1 hFc hP1 hD1
  generalize H1 = H at hP hS ⊢
  refine lv_aload_n hx hb (qaa qrO 5 rfl) rfl (lv_at hl 0 rfl) ?_
  refine va_get (D := (dC, dI)) (ci := 11) (v := .ref jiO) (C := RX11) (T := TX11) (N := 55) hx hb hts qZz hown hK hP 0 rfl rfl 45 (by decide) (hts _ qaun) (fun _ h9 => h9) rfl (qaa qrO 6 rfl) ?_
  refine lv_iconst (v := 0) hx hb (qaa qrO 7 rfl) (by decide) ?_
  refine va_iald hx hb hK hP 9 1 rfl rfl (vin (by decide)) (qaa qrO 8 rfl) ?_
  refine lv_topi (fun x7 ex7 => ?_)
  have hw := hw x7 ex7
  exact ((W.iret (v := x7) hx hb hr (fun t ht hW => ⟨⟨x7, (0, f1, f2, f3, f4, f5, f6), rfl, hw, by rw [ht]; exact hP, va_K.moved hW.alike hK, hD⟩, hS.F ht⟩) hS.2.2 (qaa qrO 9 rfl)))
theorem qyD : ∀ w ∈ u_ws RX11 TX11 55, w ∈ wsX11_span := uiM qwy qfa (by decide +kernel)
theorem qauh : (.fieldLink RX11 169 "MarchHaresModel" "hares" "I" : Cond) ∈ wsX11_span := qwy 520 (by decide +kernel)
theorem qaFt : (.fieldLink RX11 3 "MarchHaresModel" "thrown" "I" : Cond) ∈ wsX11_span := qwy 589 (by decide +kernel)
theorem qE7 : (.fieldLink RX11 448 "MarchHaresModel" "leaptMany" "I" : Cond) ∈ wsX11_span := qwy 4110 (by decide +kernel)
set_option maxHeartbeats 4000000 in
set_option maxRecDepth 100000 in
theorem q2k {p : Program} {l : Launch} {e : Env} {s : State} {m : MethodId} {args : Array Value} {below : List Frame} {meth : Method} {c : Code} {A : Nat → Prop} (dC : Nat → ClassId) (dI : Nat → Nat → Nat) (cyB cyI cyJ cyP : ClassId) (a0 jaQ jaT a0_s ja5 jbu jbB jbG jbg jbJ jb9 : Nat) (jaD ja7 jby jbe jaM jaY jap jaK jal jam jax jao jae jag jaf jaw jaI jan jar jaL jah jaB jaa jaz jaH jab jaq jai jaO jaA jat jau jav jaj jas jaJ jay jac : Value) (jaN jaC jbw jbD : Int32) (jb2 jbv jcu jbT jcy jdH : NI) (Q : Int32 → Int32 → NI → NI → Int32 → Int32 → NI → NI → Prop) (K78 : Int32 → NI → NI → Int32 → Int32 → NI → NI → Int32 → Int32 → Int32 → Int32 → Int32 → Int32 → Int32 → Int32 → Int32 → Prop) (hK78 : ∀ (H : Heap) (locs : List Loc) (ls : Array Slot) (jbd : Int32) (ja9 f0_s : NI) (jjo jiz : Int32) (jb1 jcb : NI) (l1 l2 l3 l4 l5 l6 l7 l8 l9 : Int32), va_P (dC, dI) vwCl (qnu a0 jbd jaQ jaD ja7 jby jbe jaM jaY jap jaK jal jam jax jao ja5 jb9 jbJ jae jag jaf jaN jaC jbw jaw jaI jbG jbg jbB jan jbD jbu jar jaL jah jaB jaa jaz jaH jab jaT a0_s jaq jai jaO jaA jat jau jav jaj jas jaJ jjo jiz jay jac jaQ cyI ja9 jaT cyI jb2 a0_s cyI f0_s ja5 cyI jbv jbu cyI jb1 jbB cyI jcb jbG cyI jcu jbg cyI jbT jbJ cyI jcy jb9 cyI jdH) H → va_D A (qnu a0 jbd jaQ jaD ja7 jby jbe jaM jaY jap jaK jal jam jax jao ja5 jb9 jbJ jae jag jaf jaN jaC jbw jaw jaI jbG jbg jbB jan jbD jbu jar jaL jah jaB jaa jaz jaH jab jaT a0_s jaq jai jaO jaA jat jau jav jaj jas jaJ jjo jiz jay jac jaQ cyI ja9 jaT cyI jb2 a0_s cyI f0_s ja5 cyI jbv jbu cyI jb1 jbB cyI jcb jbG cyI jcu jbg cyI jbT jbJ cyI jcy jb9 cyI jdH) → va_S A s.heap H locs → lv_has ls 10 [(0, .ref a0), (1, .int l1), (2, .int l2), (3, .int l3), (4, .int l4), (5, .int l5), (6, .int l6), (7, .int l7), (8, .int l8), (9, .int l9)] → K78 jbd ja9 f0_s jjo jiz jb1 jcb l1 l2 l3 l4 l5 l6 l7 l8 l9 → W p l e (headSpec wsX11_span ({ frames := 8, cells := 0, slots := 0, locals := 183 })).room s m args below meth c H locs 0 0 (MQ below (va_Qi (fun (r : Int32) (u : Int32 × NI × NI × Int32 × Int32 × NI × NI) => Q r u.1 u.2.1 u.2.2.1 u.2.2.2.1 u.2.2.2.2.1 u.2.2.2.2.2.1 u.2.2.2.2.2.2) (cB (dC, dI) (kT cyB cyI cyJ cyP) A (fun u : Int32 × NI × NI × Int32 × Int32 × NI × NI => ((qnu a0 u.1 jaQ jaD ja7 jby jbe jaM jaY jap jaK jal jam jax jao ja5 jb9 jbJ jae jag jaf jaN jaC jbw jaw jaI jbG jbg jbB jan jbD jbu jar jaL jah jaB jaa jaz jaH jab jaT a0_s jaq jai jaO jaA jat jau jav jaj jas jaJ u.2.2.2.1 u.2.2.2.2.1 jay jac jaQ cyI u.2.1 jaT cyI jb2 a0_s cyI u.2.2.1 ja5 cyI jbv jbu cyI u.2.2.2.2.2.1 jbB cyI u.2.2.2.2.2.2 jbG cyI jcu jbg cyI jbT jbJ cyI jcy jb9 cyI jdH) : va_W))) A) args s 0 0 A) (F0 m 78 ls [])) (C0 : cfx p s m args meth c cX11_span (some .int) wsX11_span RX11 10 A (dC, dI) (kT cyB cyI cyJ cyP)) : ∀ (H : Heap) (locs : List Loc) (ls : Array Slot) (jbd : Int32) (ja9 f0_s : NI) (jjo jiz : Int32) (jb1 jcb : NI) (l1 l2 l3 l4 l5 l6 l7 l9 s0 s1 : Int32), va_P (dC, dI) vwCl (qnu a0 jbd jaQ jaD ja7 jby jbe jaM jaY jap jaK jal jam jax jao ja5 jb9 jbJ jae jag jaf jaN jaC jbw jaw jaI jbG jbg jbB jan jbD jbu jar jaL jah jaB jaa jaz jaH jab jaT a0_s jaq jai jaO jaA jat jau jav jaj jas jaJ jjo jiz jay jac jaQ cyI ja9 jaT cyI jb2 a0_s cyI f0_s ja5 cyI jbv jbu cyI jb1 jbB cyI jcb jbG cyI jcu jbg cyI jbT jbJ cyI jcy jb9 cyI jdH) H → va_D A (qnu a0 jbd jaQ jaD ja7 jby jbe jaM jaY jap jaK jal jam jax jao ja5 jb9 jbJ jae jag jaf jaN jaC jbw jaw jaI jbG jbg jbB jan jbD jbu jar jaL jah jaB jaa jaz jaH jab jaT a0_s jaq jai jaO jaA jat jau jav jaj jas jaJ jjo jiz jay jac jaQ cyI ja9 jaT cyI jb2 a0_s cyI f0_s ja5 cyI jbv jbu cyI jb1 jbB cyI jcb jbG cyI jcu jbg cyI jbT jbJ cyI jcy jb9 cyI jdH) → va_S A s.heap H locs → lv_has ls 10 [(0, .ref a0), (1, .int l1), (2, .int l2), (3, .int l3), (4, .int l4), (5, .int l5), (6, .int l6), (7, .int l7), (9, .int l9)] → qQV jaN jaC jbw jbD jb2 jbv jcu jbT jcy jdH Q K78 jbd ja9 f0_s jjo jiz jb1 jcb l1 l2 l3 l4 l5 l6 l7 l9 s0 s1 → W p l e (headSpec wsX11_span ({ frames := 8, cells := 0, slots := 0, locals := 183 })).room s m args below meth c H locs 0 0 (MQ below (va_Qi (fun (r : Int32) (u : Int32 × NI × NI × Int32 × Int32 × NI × NI) => Q r u.1 u.2.1 u.2.2.1 u.2.2.2.1 u.2.2.2.2.1 u.2.2.2.2.2.1 u.2.2.2.2.2.2) (cB (dC, dI) (kT cyB cyI cyJ cyP) A (fun u : Int32 × NI × NI × Int32 × Int32 × NI × NI => ((qnu a0 u.1 jaQ jaD ja7 jby jbe jaM jaY jap jaK jal jam jax jao ja5 jb9 jbJ jae jag jaf jaN jaC jbw jaw jaI jbG jbg jbB jan jbD jbu jar jaL jah jaB jaa jaz jaH jab jaT a0_s jaq jai jaO jaA jat jau jav jaj jas jaJ u.2.2.2.1 u.2.2.2.2.1 jay jac jaQ cyI u.2.1 jaT cyI jb2 a0_s cyI u.2.2.1 ja5 cyI jbv jbu cyI u.2.2.2.2.2.1 jbB cyI u.2.2.2.2.2.2 jbG cyI jcu jbg cyI jbT jbJ cyI jcy jb9 cyI jdH) : va_W))) A) args s 0 0 A) (F0 m 155 ls [.int s1, .int s0]) := by
  obtain ⟨hx, hb, hr, hts, hown, hlocks, hml, hA, hK, hNw⟩ := id C0
  intro H locs ls jbd ja9 f0_s jjo jiz jb1 jcb l1 l2 l3 l4 l5 l6 l7 l9 s0 s1 hP hD hS hl hw
  refine lv_iadd hx hb (qaa qhl 2 rfl) ?_
  refine lv_topi (fun x27 ex27 => ?_)
  have hw := hw x27 ex27
  refine lv_istore (lv' := [(8, .int x27), (0, .ref a0), (1, .int l1), (2, .int l2), (3, .int l3), (4, .int l4), (5, .int l5), (6, .int l6), (7, .int l7), (9, .int l9)]) hx hb (qaa qhl 3 rfl) hl (by decide) rfl (fun ls hl => ?_)
  obtain ⟨x28, ex28⟩ : ∃ y : Int32, y = l9 + 1 := ⟨_, rfl⟩
  have hw := hw x28 ex28
  refine lv_iinc (v := x28) (lv' := [(9, .int x28), (8, .int x27), (0, .ref a0), (1, .int l1), (2, .int l2), (3, .int l3), (4, .int l4), (5, .int l5), (6, .int l6), (7, .int l7)]) hx hb (qaa qhl 4 rfl) hl (k := 9) rfl (by rw [ex28]; rfl) (by decide) rfl (fun ls hl => ?_)
  refine lv_goto (tgt := 78) hx hb (qaa qhl 5 rfl) (by decide) ?_
  exact hK78 _ _ _ jbd ja9 f0_s jjo jiz jb1 jcb l1 l2 l3 l4 l5 l6 l7 x27 x28 hP hD hS (lv_sub hl [2, 3, 4, 5, 6, 7, 8, 9, 1, 0] rfl) hw
set_option maxHeartbeats 4000000 in
set_option maxRecDepth 100000 in
theorem q1s {p : Program} {l : Launch} {e : Env} {s : State} {m : MethodId} {args : Array Value} {below : List Frame} {meth : Method} {c : Code} {A : Nat → Prop} (dC : Nat → ClassId) (dI : Nat → Nat → Nat) (cyB cyI cyJ cyP : ClassId) (a0 jaQ jaT a0_s ja5 jbu jbB jbG jbg jbJ jb9 : Nat) (jaD ja7 jby jbe jaM jaY jap jaK jal jam jax jao jae jag jaf jaw jaI jan jar jaL jah jaB jaa jaz jaH jab jaq jai jaO jaA jat jau jav jaj jas jaJ jay jac : Value) (jaN jaC jbw jbD : Int32) (jb2 jbv jcu jbT jcy jdH : NI) (Q : Int32 → Int32 → NI → NI → Int32 → Int32 → NI → NI → Prop) (K78 : Int32 → NI → NI → Int32 → Int32 → NI → NI → Int32 → Int32 → Int32 → Int32 → Int32 → Int32 → Int32 → Int32 → Int32 → Prop) (hK78 : ∀ (H : Heap) (locs : List Loc) (ls : Array Slot) (jbd : Int32) (ja9 f0_s : NI) (jjo jiz : Int32) (jb1 jcb : NI) (l1 l2 l3 l4 l5 l6 l7 l8 l9 : Int32), va_P (dC, dI) vwCl (qnu a0 jbd jaQ jaD ja7 jby jbe jaM jaY jap jaK jal jam jax jao ja5 jb9 jbJ jae jag jaf jaN jaC jbw jaw jaI jbG jbg jbB jan jbD jbu jar jaL jah jaB jaa jaz jaH jab jaT a0_s jaq jai jaO jaA jat jau jav jaj jas jaJ jjo jiz jay jac jaQ cyI ja9 jaT cyI jb2 a0_s cyI f0_s ja5 cyI jbv jbu cyI jb1 jbB cyI jcb jbG cyI jcu jbg cyI jbT jbJ cyI jcy jb9 cyI jdH) H → va_D A (qnu a0 jbd jaQ jaD ja7 jby jbe jaM jaY jap jaK jal jam jax jao ja5 jb9 jbJ jae jag jaf jaN jaC jbw jaw jaI jbG jbg jbB jan jbD jbu jar jaL jah jaB jaa jaz jaH jab jaT a0_s jaq jai jaO jaA jat jau jav jaj jas jaJ jjo jiz jay jac jaQ cyI ja9 jaT cyI jb2 a0_s cyI f0_s ja5 cyI jbv jbu cyI jb1 jbB cyI jcb jbG cyI jcu jbg cyI jbT jbJ cyI jcy jb9 cyI jdH) → va_S A s.heap H locs → lv_has ls 10 [(0, .ref a0), (1, .int l1), (2, .int l2), (3, .int l3), (4, .int l4), (5, .int l5), (6, .int l6), (7, .int l7), (8, .int l8), (9, .int l9)] → K78 jbd ja9 f0_s jjo jiz jb1 jcb l1 l2 l3 l4 l5 l6 l7 l8 l9 → W p l e (headSpec wsX11_span ({ frames := 8, cells := 0, slots := 0, locals := 183 })).room s m args below meth c H locs 0 0 (MQ below (va_Qi (fun (r : Int32) (u : Int32 × NI × NI × Int32 × Int32 × NI × NI) => Q r u.1 u.2.1 u.2.2.1 u.2.2.2.1 u.2.2.2.2.1 u.2.2.2.2.2.1 u.2.2.2.2.2.2) (cB (dC, dI) (kT cyB cyI cyJ cyP) A (fun u : Int32 × NI × NI × Int32 × Int32 × NI × NI => ((qnu a0 u.1 jaQ jaD ja7 jby jbe jaM jaY jap jaK jal jam jax jao ja5 jb9 jbJ jae jag jaf jaN jaC jbw jaw jaI jbG jbg jbB jan jbD jbu jar jaL jah jaB jaa jaz jaH jab jaT a0_s jaq jai jaO jaA jat jau jav jaj jas jaJ u.2.2.2.1 u.2.2.2.2.1 jay jac jaQ cyI u.2.1 jaT cyI jb2 a0_s cyI u.2.2.1 ja5 cyI jbv jbu cyI u.2.2.2.2.2.1 jbB cyI u.2.2.2.2.2.2 jbG cyI jcu jbg cyI jbT jbJ cyI jcy jb9 cyI jdH) : va_W))) A) args s 0 0 A) (F0 m 78 ls [])) (C0 : cfx p s m args meth c cX11_span (some .int) wsX11_span RX11 10 A (dC, dI) (kT cyB cyI cyJ cyP)) : ∀ (H : Heap) (locs : List Loc) (ls : Array Slot) (jbd : Int32) (ja9 f0_s : NI) (jjo jiz : Int32) (jb1 jcb : NI) (l1 l2 l3 l4 l5 l6 l8 l9 s0 : Int32), va_P (dC, dI) vwCl (qnu a0 jbd jaQ jaD ja7 jby jbe jaM jaY jap jaK jal jam jax jao ja5 jb9 jbJ jae jag jaf jaN jaC jbw jaw jaI jbG jbg jbB jan jbD jbu jar jaL jah jaB jaa jaz jaH jab jaT a0_s jaq jai jaO jaA jat jau jav jaj jas jaJ jjo jiz jay jac jaQ cyI ja9 jaT cyI jb2 a0_s cyI f0_s ja5 cyI jbv jbu cyI jb1 jbB cyI jcb jbG cyI jcu jbg cyI jbT jbJ cyI jcy jb9 cyI jdH) H → va_D A (qnu a0 jbd jaQ jaD ja7 jby jbe jaM jaY jap jaK jal jam jax jao ja5 jb9 jbJ jae jag jaf jaN jaC jbw jaw jaI jbG jbg jbB jan jbD jbu jar jaL jah jaB jaa jaz jaH jab jaT a0_s jaq jai jaO jaA jat jau jav jaj jas jaJ jjo jiz jay jac jaQ cyI ja9 jaT cyI jb2 a0_s cyI f0_s ja5 cyI jbv jbu cyI jb1 jbB cyI jcb jbG cyI jcu jbg cyI jbT jbJ cyI jcy jb9 cyI jdH) → va_S A s.heap H locs → lv_has ls 10 [(0, .ref a0), (1, .int l1), (2, .int l2), (3, .int l3), (4, .int l4), (5, .int l5), (6, .int l6), (8, .int l8), (9, .int l9)] → qP8 jaN jaC jbw jbD jb2 jbv jcu jbT jcy jdH Q K78 jbd ja9 f0_s jjo jiz jb1 jcb l1 l2 l3 l4 l5 l6 l8 l9 s0 → W p l e (headSpec wsX11_span ({ frames := 8, cells := 0, slots := 0, locals := 183 })).room s m args below meth c H locs 0 0 (MQ below (va_Qi (fun (r : Int32) (u : Int32 × NI × NI × Int32 × Int32 × NI × NI) => Q r u.1 u.2.1 u.2.2.1 u.2.2.2.1 u.2.2.2.2.1 u.2.2.2.2.2.1 u.2.2.2.2.2.2) (cB (dC, dI) (kT cyB cyI cyJ cyP) A (fun u : Int32 × NI × NI × Int32 × Int32 × NI × NI => ((qnu a0 u.1 jaQ jaD ja7 jby jbe jaM jaY jap jaK jal jam jax jao ja5 jb9 jbJ jae jag jaf jaN jaC jbw jaw jaI jbG jbg jbB jan jbD jbu jar jaL jah jaB jaa jaz jaH jab jaT a0_s jaq jai jaO jaA jat jau jav jaj jas jaJ u.2.2.2.1 u.2.2.2.2.1 jay jac jaQ cyI u.2.1 jaT cyI jb2 a0_s cyI u.2.2.1 ja5 cyI jbv jbu cyI u.2.2.2.2.2.1 jbB cyI u.2.2.2.2.2.2 jbG cyI jcu jbg cyI jbT jbJ cyI jcy jb9 cyI jdH) : va_W))) A) args s 0 0 A) (F0 m 137 ls [.int s0]) := by
  obtain ⟨hx, hb, hr, hts, hown, hlocks, hml, hA, hK, hNw⟩ := id C0
  intro H locs ls jbd ja9 f0_s jjo jiz jb1 jcb l1 l2 l3 l4 l5 l6 l8 l9 s0 hP hD hS hl hw
  refine lv_istore (lv' := [(7, .int s0), (0, .ref a0), (1, .int l1), (2, .int l2), (3, .int l3), (4, .int l4), (5, .int l5), (6, .int l6), (8, .int l8), (9, .int l9)]) hx hb (qaa qhr 9 rfl) hl (by decide) rfl (fun ls hl => ?_)
  refine lv_iload hx hb (qaa qhr 10 rfl) (lv_at hl 8 rfl) ?_
  refine lv_aload_n hx hb (qaa qhr 11 rfl) rfl (lv_at hl 1 rfl) ?_
  refine lv_iload hx hb (qaa qhr 12 rfl) (lv_at hl 6 rfl) ?_
  obtain ⟨hCc, hPc, hDc, hFc⟩ := qac (ws' := (qbd7 a0 jbd jaQ jaD ja7 jby jbe jaM jaY jap jaK jal jam jax jao ja5 jb9 jbJ jae jag jaf jaN jaC jbw jaw jaI jbG jbg jbB jan jbD jbu jar jaL jah jaB jaa jaz jaH jab jaT a0_s jaq jai jaO jaA jat jau jav jaj jas jaJ jjo jiz jay jac a0_s cyI f0_s)) hP hD hS hA [0, 3] (by decide +kernel) rfl
  refine va_calli (va_runV (As := [.int l5]) (rest := [.int l8]) ⟨hx, hb, hml, hown, hts⟩ (qim l dC dI cyB cyI cyJ cyP a0 a0_s H.size (.int jbd) (.ref jaQ) (jaD) (ja7) (jby) (jbe) (jaM) (jaY) (jap) (jaK) (jal) (jam) (jax) (jao) (.ref ja5) (.ref jb9) (.ref jbJ) (jae) (jag) (jaf) (.int jaN) (.int jaC) (.int jbw) (jaw) (jaI) (.ref jbG) (.ref jbg) (.ref jbB) (jan) (.int jbD) (.ref jbu) (jar) (jaL) (jah) (jaB) (jaa) (jaz) (jaH) (jab) (.ref jaT) (jaq) (jai) (jaO) (jaA) (jat) (jau) (jav) (jaj) (jas) (jaJ) (.int jjo) (.int jiz) (jay) (jac) f0_s l5 hw) (cwV 1 hts gX11_span_X11_isCaught rfl rfl rfl (by decide +kernel) ⟨nbq rfl, nbq rfl⟩) ⟨qab, va_recv (q := (RX11, TX11, 55)) hK hPc (ci := 11) (q0 := 0) rfl rfl, qae hPc hK hDc hNw⟩ rfl rfl hl.1 rfl (lv_room (nbq rfl)) (qaa qhr 13 rfl) ⟨nbq rfl, nbq rfl⟩) hS (fun q _ h => hFc q h) hFc (fun r25 u t H1 locs ht hvm hw hB hz1 hk1 hS => ?_)
  obtain ⟨hP1, hK1, hD1⟩ := hB
  rw [ht] at hP1
  obtain ⟨hP, hD⟩ := qad (wr := [(jaQ, .inl (cyI, 2, .inl ja9)), (jaT, .inl (cyI, 68, .inl jb2)), (ja5, .inl (cyI, 16, .inl jbv)), (jbu, .inl (cyI, 8, .inl jb1)), (jbB, .inl (cyI, 150, .inl jcb)), (jbG, .inl (cyI, 150, .inl jcu)), (jbg, .inl (cyI, 150, .inl jbT)), (jbJ, .inl (cyI, 8, .inl jcy)), (jb9, .inl (cyI, 12, .inl jdH))]) (w1 := (qbd7 a0 jbd jaQ jaD ja7 jby jbe jaM jaY jap jaK jal jam jax jao ja5 jb9 jbJ jae jag jaf jaN jaC jbw jaw jaI jbG jbg jbB jan jbD jbu jar jaL jah jaB jaa jaz jaH jab jaT a0_s jaq jai jaO jaA jat jau jav jaj jas jaJ jjo jiz jay jac a0_s cyI f0_s)) (wn := (qnu a0 jbd jaQ jaD ja7 jby jbe jaM jaY jap jaK jal jam jax jao ja5 jb9 jbJ jae jag jaf jaN jaC jbw jaw jaI jbG jbg jbB jan jbD jbu jar jaL jah jaB jaa jaz jaH jab jaT a0_s jaq jai jaO jaA jat jau jav jaj jas jaJ jjo jiz jay jac jaQ cyI ja9 jaT cyI jb2 a0_s cyI f0_s ja5 cyI jbv jbu cyI jb1 jbB cyI jcb jbG cyI jcu jbg cyI jbT jbJ cyI jcy jb9 cyI jdH)) hP hD [0, 3] [1, 2, 4, 5, 6, 7, 8, 9, 10] [9, 0, 1, 10, 2, 3, 4, 5, 6, 7, 8] hCc rfl (by decide +kernel) (by decide +kernel) (by decide +kernel) rfl hk1 hFc hP1 hD1
  generalize H1 = H at hP hS ⊢
  refine lv_if_eq (tgt := 154) hx hb (qaa qhr 14 rfl) (by decide) (fun c26 => ?_) (fun c26 => ?_)
  · have hw := hw.1 c26
    refine lv_iconst (v := 1) hx hb (qaa qhl 1 rfl) (by decide) ?_
    exact q2k dC dI cyB cyI cyJ cyP a0 jaQ jaT a0_s ja5 jbu jbB jbG jbg jbJ jb9 jaD ja7 jby jbe jaM jaY jap jaK jal jam jax jao jae jag jaf jaw jaI jan jar jaL jah jaB jaa jaz jaH jab jaq jai jaO jaA jat jau jav jaj jas jaJ jay jac jaN jaC jbw jbD jb2 jbv jcu jbT jcy jdH Q K78 hK78 C0 _ _ _ jbd ja9 f0_s jjo jiz jb1 jcb l1 l2 l3 l4 l5 l6 s0 l9 l8 1 hP hD hS (lv_sub hl [1, 2, 3, 4, 5, 6, 7, 0, 9] rfl) hw
  · have hw := hw.2 c26
    refine lv_iconst (v := 0) hx hb (qaa qhr 15 rfl) (by decide) ?_
    refine lv_goto (tgt := 155) hx hb (qaa qhl 0 rfl) (by decide) ?_
    exact q2k dC dI cyB cyI cyJ cyP a0 jaQ jaT a0_s ja5 jbu jbB jbG jbg jbJ jb9 jaD ja7 jby jbe jaM jaY jap jaK jal jam jax jao jae jag jaf jaw jaI jan jar jaL jah jaB jaa jaz jaH jab jaq jai jaO jaA jat jau jav jaj jas jaJ jay jac jaN jaC jbw jbD jb2 jbv jcu jbT jcy jdH Q K78 hK78 C0 _ _ _ jbd ja9 f0_s jjo jiz jb1 jcb l1 l2 l3 l4 l5 l6 s0 l9 l8 0 hP hD hS (lv_sub hl [1, 2, 3, 4, 5, 6, 7, 0, 9] rfl) hw
set_option maxHeartbeats 4000000 in
set_option maxRecDepth 100000 in
theorem q0T {p : Program} {l : Launch} {e : Env} {s : State} {m : MethodId} {args : Array Value} {below : List Frame} {meth : Method} {c : Code} {A : Nat → Prop} (dC : Nat → ClassId) (dI : Nat → Nat → Nat) (cyB cyI cyJ cyP : ClassId) (a0 jaQ jaT a0_s ja5 jbu jbB jbG jbg jbJ jb9 : Nat) (jaD ja7 jby jbe jaM jaY jap jaK jal jam jax jao jae jag jaf jaw jaI jan jar jaL jah jaB jaa jaz jaH jab jaq jai jaO jaA jat jau jav jaj jas jaJ jay jac : Value) (jaN jaC jbw jbD : Int32) (jb2 jbv jcu jbT jcy jdH : NI) (Q : Int32 → Int32 → NI → NI → Int32 → Int32 → NI → NI → Prop) (K78 : Int32 → NI → NI → Int32 → Int32 → NI → NI → Int32 → Int32 → Int32 → Int32 → Int32 → Int32 → Int32 → Int32 → Int32 → Prop) (hK78 : ∀ (H : Heap) (locs : List Loc) (ls : Array Slot) (jbd : Int32) (ja9 f0_s : NI) (jjo jiz : Int32) (jb1 jcb : NI) (l1 l2 l3 l4 l5 l6 l7 l8 l9 : Int32), va_P (dC, dI) vwCl (qnu a0 jbd jaQ jaD ja7 jby jbe jaM jaY jap jaK jal jam jax jao ja5 jb9 jbJ jae jag jaf jaN jaC jbw jaw jaI jbG jbg jbB jan jbD jbu jar jaL jah jaB jaa jaz jaH jab jaT a0_s jaq jai jaO jaA jat jau jav jaj jas jaJ jjo jiz jay jac jaQ cyI ja9 jaT cyI jb2 a0_s cyI f0_s ja5 cyI jbv jbu cyI jb1 jbB cyI jcb jbG cyI jcu jbg cyI jbT jbJ cyI jcy jb9 cyI jdH) H → va_D A (qnu a0 jbd jaQ jaD ja7 jby jbe jaM jaY jap jaK jal jam jax jao ja5 jb9 jbJ jae jag jaf jaN jaC jbw jaw jaI jbG jbg jbB jan jbD jbu jar jaL jah jaB jaa jaz jaH jab jaT a0_s jaq jai jaO jaA jat jau jav jaj jas jaJ jjo jiz jay jac jaQ cyI ja9 jaT cyI jb2 a0_s cyI f0_s ja5 cyI jbv jbu cyI jb1 jbB cyI jcb jbG cyI jcu jbg cyI jbT jbJ cyI jcy jb9 cyI jdH) → va_S A s.heap H locs → lv_has ls 10 [(0, .ref a0), (1, .int l1), (2, .int l2), (3, .int l3), (4, .int l4), (5, .int l5), (6, .int l6), (7, .int l7), (8, .int l8), (9, .int l9)] → K78 jbd ja9 f0_s jjo jiz jb1 jcb l1 l2 l3 l4 l5 l6 l7 l8 l9 → W p l e (headSpec wsX11_span ({ frames := 8, cells := 0, slots := 0, locals := 183 })).room s m args below meth c H locs 0 0 (MQ below (va_Qi (fun (r : Int32) (u : Int32 × NI × NI × Int32 × Int32 × NI × NI) => Q r u.1 u.2.1 u.2.2.1 u.2.2.2.1 u.2.2.2.2.1 u.2.2.2.2.2.1 u.2.2.2.2.2.2) (cB (dC, dI) (kT cyB cyI cyJ cyP) A (fun u : Int32 × NI × NI × Int32 × Int32 × NI × NI => ((qnu a0 u.1 jaQ jaD ja7 jby jbe jaM jaY jap jaK jal jam jax jao ja5 jb9 jbJ jae jag jaf jaN jaC jbw jaw jaI jbG jbg jbB jan jbD jbu jar jaL jah jaB jaa jaz jaH jab jaT a0_s jaq jai jaO jaA jat jau jav jaj jas jaJ u.2.2.2.1 u.2.2.2.2.1 jay jac jaQ cyI u.2.1 jaT cyI jb2 a0_s cyI u.2.2.1 ja5 cyI jbv jbu cyI u.2.2.2.2.2.1 jbB cyI u.2.2.2.2.2.2 jbG cyI jcu jbg cyI jbT jbJ cyI jcy jb9 cyI jdH) : va_W))) A) args s 0 0 A) (F0 m 78 ls [])) (C0 : cfx p s m args meth c cX11_span (some .int) wsX11_span RX11 10 A (dC, dI) (kT cyB cyI cyJ cyP)) : ∀ (H : Heap) (locs : List Loc) (ls : Array Slot) (jbd : Int32) (ja9 f0_s : NI) (jjo jiz : Int32) (jb1 jcb : NI) (l1 l2 l3 l4 l5 l7 l8 l9 s0 : Int32), va_P (dC, dI) vwCl (qnu a0 jbd jaQ jaD ja7 jby jbe jaM jaY jap jaK jal jam jax jao ja5 jb9 jbJ jae jag jaf jaN jaC jbw jaw jaI jbG jbg jbB jan jbD jbu jar jaL jah jaB jaa jaz jaH jab jaT a0_s jaq jai jaO jaA jat jau jav jaj jas jaJ jjo jiz jay jac jaQ cyI ja9 jaT cyI jb2 a0_s cyI f0_s ja5 cyI jbv jbu cyI jb1 jbB cyI jcb jbG cyI jcu jbg cyI jbT jbJ cyI jcy jb9 cyI jdH) H → va_D A (qnu a0 jbd jaQ jaD ja7 jby jbe jaM jaY jap jaK jal jam jax jao ja5 jb9 jbJ jae jag jaf jaN jaC jbw jaw jaI jbG jbg jbB jan jbD jbu jar jaL jah jaB jaa jaz jaH jab jaT a0_s jaq jai jaO jaA jat jau jav jaj jas jaJ jjo jiz jay jac jaQ cyI ja9 jaT cyI jb2 a0_s cyI f0_s ja5 cyI jbv jbu cyI jb1 jbB cyI jcb jbG cyI jcu jbg cyI jbT jbJ cyI jcy jb9 cyI jdH) → va_S A s.heap H locs → lv_has ls 10 [(0, .ref a0), (1, .int l1), (2, .int l2), (3, .int l3), (4, .int l4), (5, .int l5), (7, .int l7), (8, .int l8), (9, .int l9)] → qQu jaN jaC jbw jbD jb2 jbv jcu jbT jcy jdH Q K78 jbd ja9 f0_s jjo jiz jb1 jcb l1 l2 l3 l4 l5 l7 l8 l9 s0 → W p l e (headSpec wsX11_span ({ frames := 8, cells := 0, slots := 0, locals := 183 })).room s m args below meth c H locs 0 0 (MQ below (va_Qi (fun (r : Int32) (u : Int32 × NI × NI × Int32 × Int32 × NI × NI) => Q r u.1 u.2.1 u.2.2.1 u.2.2.2.1 u.2.2.2.2.1 u.2.2.2.2.2.1 u.2.2.2.2.2.2) (cB (dC, dI) (kT cyB cyI cyJ cyP) A (fun u : Int32 × NI × NI × Int32 × Int32 × NI × NI => ((qnu a0 u.1 jaQ jaD ja7 jby jbe jaM jaY jap jaK jal jam jax jao ja5 jb9 jbJ jae jag jaf jaN jaC jbw jaw jaI jbG jbg jbB jan jbD jbu jar jaL jah jaB jaa jaz jaH jab jaT a0_s jaq jai jaO jaA jat jau jav jaj jas jaJ u.2.2.2.1 u.2.2.2.2.1 jay jac jaQ cyI u.2.1 jaT cyI jb2 a0_s cyI u.2.2.1 ja5 cyI jbv jbu cyI u.2.2.2.2.2.1 jbB cyI u.2.2.2.2.2.2 jbG cyI jcu jbg cyI jbT jbJ cyI jcy jb9 cyI jdH) : va_W))) A) args s 0 0 A) (F0 m 117 ls [.int s0]) := by
  obtain ⟨hx, hb, hr, hts, hown, hlocks, hml, hA, hK, hNw⟩ := id C0
  intro H locs ls jbd ja9 f0_s jjo jiz jb1 jcb l1 l2 l3 l4 l5 l7 l8 l9 s0 hP hD hS hl hw
  refine lv_istore (lv' := [(6, .int s0), (0, .ref a0), (1, .int l1), (2, .int l2), (3, .int l3), (4, .int l4), (5, .int l5), (7, .int l7), (8, .int l8), (9, .int l9)]) hx hb (qaa qhr 0 rfl) hl (by decide) rfl (fun ls hl => ?_)
  refine lv_aload_n hx hb (qaa qhr 1 rfl) rfl (lv_at hl 1 rfl) ?_
  refine va_get (D := (dC, dI)) (ci := 11) (v := .int jiz) (C := RX11) (T := TX11) (N := 55) hx hb hts qyD hown hK hP 0 rfl rfl 52 (by decide) (hts _ qE7) (fun _ h9 => h9) rfl (qaa qhr 2 rfl) ?_
  refine lv_iload hx hb (qaa qhr 3 rfl) (lv_at hl 7 rfl) ?_
  refine lv_icmp_le (tgt := 135) hx hb (qaa qhr 4 rfl) (by decide) (fun c24 => ?_) (fun c24 => ?_)
  · have hw := hw.1 c24
    refine lv_iload hx hb (qaa qhr 8 rfl) (lv_at hl 7 rfl) ?_
    exact q1s dC dI cyB cyI cyJ cyP a0 jaQ jaT a0_s ja5 jbu jbB jbG jbg jbJ jb9 jaD ja7 jby jbe jaM jaY jap jaK jal jam jax jao jae jag jaf jaw jaI jan jar jaL jah jaB jaa jaz jaH jab jaq jai jaO jaA jat jau jav jaj jas jaJ jay jac jaN jaC jbw jbD jb2 jbv jcu jbT jcy jdH Q K78 hK78 C0 _ _ _ jbd ja9 f0_s jjo jiz jb1 jcb l1 l2 l3 l4 l5 s0 l8 l9 l7 hP hD hS (lv_sub hl [1, 2, 3, 4, 5, 6, 0, 8, 9] rfl) hw
  · have hw := hw.2 c24
    refine lv_aload_n hx hb (qaa qhr 5 rfl) rfl (lv_at hl 1 rfl) ?_
    refine va_get (D := (dC, dI)) (ci := 11) (v := .int jiz) (C := RX11) (T := TX11) (N := 55) hx hb hts qyD hown hK hP 0 rfl rfl 52 (by decide) (hts _ qE7) (fun _ h9 => h9) rfl (qaa qhr 6 rfl) ?_
    refine lv_goto (tgt := 137) hx hb (qaa qhr 7 rfl) (by decide) ?_
    exact q1s dC dI cyB cyI cyJ cyP a0 jaQ jaT a0_s ja5 jbu jbB jbG jbg jbJ jb9 jaD ja7 jby jbe jaM jaY jap jaK jal jam jax jao jae jag jaf jaw jaI jan jar jaL jah jaB jaa jaz jaH jab jaq jai jaO jaA jat jau jav jaj jas jaJ jay jac jaN jaC jbw jbD jb2 jbv jcu jbT jcy jdH Q K78 hK78 C0 _ _ _ jbd ja9 f0_s jjo jiz jb1 jcb l1 l2 l3 l4 l5 s0 l8 l9 jiz hP hD hS (lv_sub hl [1, 2, 3, 4, 5, 6, 0, 8, 9] rfl) hw
set_option maxHeartbeats 4000000 in
set_option maxRecDepth 100000 in
theorem q2i {p : Program} {l : Launch} {e : Env} {s : State} {m : MethodId} {args : Array Value} {below : List Frame} {meth : Method} {c : Code} {A : Nat → Prop} (dC : Nat → ClassId) (dI : Nat → Nat → Nat) (cyB cyI cyJ cyP : ClassId) (a0 jaQ jaT a0_s ja5 jbu jbB jbG jbg jbJ jb9 : Nat) (jaD ja7 jby jbe jaM jaY jap jaK jal jam jax jao jae jag jaf jaw jaI jan jar jaL jah jaB jaa jaz jaH jab jaq jai jaO jaA jat jau jav jaj jas jaJ jay jac : Value) (jaN jaC jbw jbD : Int32) (jb2 jbv jcu jbT jcy jdH : NI) (Q : Int32 → Int32 → NI → NI → Int32 → Int32 → NI → NI → Prop) (K78 : Int32 → NI → NI → Int32 → Int32 → NI → NI → Int32 → Int32 → Int32 → Int32 → Int32 → Int32 → Int32 → Int32 → Int32 → Prop) (hK78 : ∀ (H : Heap) (locs : List Loc) (ls : Array Slot) (jbd : Int32) (ja9 f0_s : NI) (jjo jiz : Int32) (jb1 jcb : NI) (l1 l2 l3 l4 l5 l6 l7 l8 l9 : Int32), va_P (dC, dI) vwCl (qnu a0 jbd jaQ jaD ja7 jby jbe jaM jaY jap jaK jal jam jax jao ja5 jb9 jbJ jae jag jaf jaN jaC jbw jaw jaI jbG jbg jbB jan jbD jbu jar jaL jah jaB jaa jaz jaH jab jaT a0_s jaq jai jaO jaA jat jau jav jaj jas jaJ jjo jiz jay jac jaQ cyI ja9 jaT cyI jb2 a0_s cyI f0_s ja5 cyI jbv jbu cyI jb1 jbB cyI jcb jbG cyI jcu jbg cyI jbT jbJ cyI jcy jb9 cyI jdH) H → va_D A (qnu a0 jbd jaQ jaD ja7 jby jbe jaM jaY jap jaK jal jam jax jao ja5 jb9 jbJ jae jag jaf jaN jaC jbw jaw jaI jbG jbg jbB jan jbD jbu jar jaL jah jaB jaa jaz jaH jab jaT a0_s jaq jai jaO jaA jat jau jav jaj jas jaJ jjo jiz jay jac jaQ cyI ja9 jaT cyI jb2 a0_s cyI f0_s ja5 cyI jbv jbu cyI jb1 jbB cyI jcb jbG cyI jcu jbg cyI jbT jbJ cyI jcy jb9 cyI jdH) → va_S A s.heap H locs → lv_has ls 10 [(0, .ref a0), (1, .int l1), (2, .int l2), (3, .int l3), (4, .int l4), (5, .int l5), (6, .int l6), (7, .int l7), (8, .int l8), (9, .int l9)] → K78 jbd ja9 f0_s jjo jiz jb1 jcb l1 l2 l3 l4 l5 l6 l7 l8 l9 → W p l e (headSpec wsX11_span ({ frames := 8, cells := 0, slots := 0, locals := 183 })).room s m args below meth c H locs 0 0 (MQ below (va_Qi (fun (r : Int32) (u : Int32 × NI × NI × Int32 × Int32 × NI × NI) => Q r u.1 u.2.1 u.2.2.1 u.2.2.2.1 u.2.2.2.2.1 u.2.2.2.2.2.1 u.2.2.2.2.2.2) (cB (dC, dI) (kT cyB cyI cyJ cyP) A (fun u : Int32 × NI × NI × Int32 × Int32 × NI × NI => ((qnu a0 u.1 jaQ jaD ja7 jby jbe jaM jaY jap jaK jal jam jax jao ja5 jb9 jbJ jae jag jaf jaN jaC jbw jaw jaI jbG jbg jbB jan jbD jbu jar jaL jah jaB jaa jaz jaH jab jaT a0_s jaq jai jaO jaA jat jau jav jaj jas jaJ u.2.2.2.1 u.2.2.2.2.1 jay jac jaQ cyI u.2.1 jaT cyI jb2 a0_s cyI u.2.2.1 ja5 cyI jbv jbu cyI u.2.2.2.2.2.1 jbB cyI u.2.2.2.2.2.2 jbG cyI jcu jbg cyI jbT jbJ cyI jcy jb9 cyI jdH) : va_W))) A) args s 0 0 A) (F0 m 78 ls [])) (C0 : cfx p s m args meth c cX11_span (some .int) wsX11_span RX11 10 A (dC, dI) (kT cyB cyI cyJ cyP)) : ∀ (H : Heap) (locs : List Loc) (ls : Array Slot) (jbd : Int32) (ja9 f0_s : NI) (jjo jiz : Int32) (jb1 jcb : NI) (l1 l2 l3 l4 l5 l7 l8 l9 : Int32), va_P (dC, dI) vwCl (qnu a0 jbd jaQ jaD ja7 jby jbe jaM jaY jap jaK jal jam jax jao ja5 jb9 jbJ jae jag jaf jaN jaC jbw jaw jaI jbG jbg jbB jan jbD jbu jar jaL jah jaB jaa jaz jaH jab jaT a0_s jaq jai jaO jaA jat jau jav jaj jas jaJ jjo jiz jay jac jaQ cyI ja9 jaT cyI jb2 a0_s cyI f0_s ja5 cyI jbv jbu cyI jb1 jbB cyI jcb jbG cyI jcu jbg cyI jbT jbJ cyI jcy jb9 cyI jdH) H → va_D A (qnu a0 jbd jaQ jaD ja7 jby jbe jaM jaY jap jaK jal jam jax jao ja5 jb9 jbJ jae jag jaf jaN jaC jbw jaw jaI jbG jbg jbB jan jbD jbu jar jaL jah jaB jaa jaz jaH jab jaT a0_s jaq jai jaO jaA jat jau jav jaj jas jaJ jjo jiz jay jac jaQ cyI ja9 jaT cyI jb2 a0_s cyI f0_s ja5 cyI jbv jbu cyI jb1 jbB cyI jcb jbG cyI jcu jbg cyI jbT jbJ cyI jcy jb9 cyI jdH) → va_S A s.heap H locs → lv_has ls 10 [(0, .ref a0), (1, .int l1), (2, .int l2), (3, .int l3), (4, .int l4), (5, .int l5), (7, .int l7), (8, .int l8), (9, .int l9)] → qOK jaN jaC jbw jbD jb2 jbv jcu jbT jcy jdH Q K78 jbd ja9 f0_s jjo jiz jb1 jcb l1 l2 l3 l4 l5 l7 l8 l9 → W p l e (headSpec wsX11_span ({ frames := 8, cells := 0, slots := 0, locals := 183 })).room s m args below meth c H locs 0 0 (MQ below (va_Qi (fun (r : Int32) (u : Int32 × NI × NI × Int32 × Int32 × NI × NI) => Q r u.1 u.2.1 u.2.2.1 u.2.2.2.1 u.2.2.2.2.1 u.2.2.2.2.2.1 u.2.2.2.2.2.2) (cB (dC, dI) (kT cyB cyI cyJ cyP) A (fun u : Int32 × NI × NI × Int32 × Int32 × NI × NI => ((qnu a0 u.1 jaQ jaD ja7 jby jbe jaM jaY jap jaK jal jam jax jao ja5 jb9 jbJ jae jag jaf jaN jaC jbw jaw jaI jbG jbg jbB jan jbD jbu jar jaL jah jaB jaa jaz jaH jab jaT a0_s jaq jai jaO jaA jat jau jav jaj jas jaJ u.2.2.2.1 u.2.2.2.2.1 jay jac jaQ cyI u.2.1 jaT cyI jb2 a0_s cyI u.2.2.1 ja5 cyI jbv jbu cyI u.2.2.2.2.2.1 jbB cyI u.2.2.2.2.2.2 jbG cyI jcu jbg cyI jbT jbJ cyI jcy jb9 cyI jdH) : va_W))) A) args s 0 0 A) (F0 m 108 ls []) := by
  obtain ⟨hx, hb, hr, hts, hown, hlocks, hml, hA, hK, hNw⟩ := id C0
  intro H locs ls jbd ja9 f0_s jjo jiz jb1 jcb l1 l2 l3 l4 l5 l7 l8 l9 hP hD hS hl hw
  refine lv_aload_n hx hb (qaa qjK 12 rfl) rfl (lv_at hl 0 rfl) ?_
  refine va_get (D := (dC, dI)) (ci := 11) (v := .int jiz) (C := RX11) (T := TX11) (N := 55) hx hb hts qyD hown hK hP 0 rfl rfl 52 (by decide) (hts _ qE7) (fun _ h9 => h9) rfl (qaa qjK 13 rfl) ?_
  refine lv_goto (tgt := 117) hx hb (qaa qjK 14 rfl) (by decide) ?_
  exact q0T dC dI cyB cyI cyJ cyP a0 jaQ jaT a0_s ja5 jbu jbB jbG jbg jbJ jb9 jaD ja7 jby jbe jaM jaY jap jaK jal jam jax jao jae jag jaf jaw jaI jan jar jaL jah jaB jaa jaz jaH jab jaq jai jaO jaA jat jau jav jaj jas jaJ jay jac jaN jaC jbw jbD jb2 jbv jcu jbT jcy jdH Q K78 hK78 C0 _ _ _ jbd ja9 f0_s jjo jiz jb1 jcb l1 l2 l3 l4 l5 l7 l8 l9 jiz hP hD hS (lv_sub hl [0, 1, 2, 3, 4, 5, 6, 7, 8] rfl) hw
set_option maxHeartbeats 4000000 in
set_option maxRecDepth 100000 in
theorem qaFE {p : Program} {l : Launch} {e : Env} {s : State} {m : MethodId} {args : Array Value} {below : List Frame} {meth : Method} {c : Code} {A : Nat → Prop} (dC : Nat → ClassId) (dI : Nat → Nat → Nat) (cyB cyI cyJ cyP : ClassId) (a0 jaQ jaT a0_s ja5 jbu jbB jbG jbg jbJ jb9 : Nat) (jaD ja7 jby jbe jaM jaY jap jaK jal jam jax jao jae jag jaf jaw jaI jan jar jaL jah jaB jaa jaz jaH jab jaq jai jaO jaA jat jau jav jaj jas jaJ jay jac : Value) (jaN jaC jbw jbD : Int32) (jb2 jbv jcu jbT jcy jdH : NI) (Q : Int32 → Int32 → NI → NI → Int32 → Int32 → NI → NI → Prop) (C0 : cfx p s m args meth c cX11_span (some .int) wsX11_span RX11 10 A (dC, dI) (kT cyB cyI cyJ cyP)) : ∀ (n : Nat) (H : Heap) (locs : List Loc) (ls : Array Slot) (jbd : Int32) (ja9 f0_s : NI) (jjo jiz : Int32) (jb1 jcb : NI) (l1 l2 l3 l4 l5 l6 l7 l8 l9 : Int32), va_P (dC, dI) vwCl (qnu a0 jbd jaQ jaD ja7 jby jbe jaM jaY jap jaK jal jam jax jao ja5 jb9 jbJ jae jag jaf jaN jaC jbw jaw jaI jbG jbg jbB jan jbD jbu jar jaL jah jaB jaa jaz jaH jab jaT a0_s jaq jai jaO jaA jat jau jav jaj jas jaJ jjo jiz jay jac jaQ cyI ja9 jaT cyI jb2 a0_s cyI f0_s ja5 cyI jbv jbu cyI jb1 jbB cyI jcb jbG cyI jcu jbg cyI jbT jbJ cyI jcy jb9 cyI jdH) H → va_D A (qnu a0 jbd jaQ jaD ja7 jby jbe jaM jaY jap jaK jal jam jax jao ja5 jb9 jbJ jae jag jaf jaN jaC jbw jaw jaI jbG jbg jbB jan jbD jbu jar jaL jah jaB jaa jaz jaH jab jaT a0_s jaq jai jaO jaA jat jau jav jaj jas jaJ jjo jiz jay jac jaQ cyI ja9 jaT cyI jb2 a0_s cyI f0_s ja5 cyI jbv jbu cyI jb1 jbB cyI jcb jbG cyI jcu jbg cyI jbT jbJ cyI jcy jb9 cyI jdH) → va_S A s.heap H locs → lv_has ls 10 [(0, .ref a0), (1, .int l1), (2, .int l2), (3, .int l3), (4, .int l4), (5, .int l5), (6, .int l6), (7, .int l7), (8, .int l8), (9, .int l9)] → qtC jaN jaC jbw jbD jb2 jbv jcu jbT jcy jdH Q n jbd ja9 f0_s jjo jiz jb1 jcb l1 l2 l3 l4 l5 l6 l7 l8 l9 → W p l e (headSpec wsX11_span ({ frames := 8, cells := 0, slots := 0, locals := 183 })).room s m args below meth c H locs 0 0 (MQ below (va_Qi (fun (r : Int32) (u : Int32 × NI × NI × Int32 × Int32 × NI × NI) => Q r u.1 u.2.1 u.2.2.1 u.2.2.2.1 u.2.2.2.2.1 u.2.2.2.2.2.1 u.2.2.2.2.2.2) (cB (dC, dI) (kT cyB cyI cyJ cyP) A (fun u : Int32 × NI × NI × Int32 × Int32 × NI × NI => ((qnu a0 u.1 jaQ jaD ja7 jby jbe jaM jaY jap jaK jal jam jax jao ja5 jb9 jbJ jae jag jaf jaN jaC jbw jaw jaI jbG jbg jbB jan jbD jbu jar jaL jah jaB jaa jaz jaH jab jaT a0_s jaq jai jaO jaA jat jau jav jaj jas jaJ u.2.2.2.1 u.2.2.2.2.1 jay jac jaQ cyI u.2.1 jaT cyI jb2 a0_s cyI u.2.2.1 ja5 cyI jbv jbu cyI u.2.2.2.2.2.1 jbB cyI u.2.2.2.2.2.2 jbG cyI jcu jbg cyI jbT jbJ cyI jcy jb9 cyI jdH) : va_W))) A) args s 0 0 A) (F0 m 78 ls []) := by
  obtain ⟨hx, hb, hr, hts, hown, hlocks, hml, hA, hK, hNw⟩ := id C0
  intro n
  induction n with
  | zero => intro H locs ls jbd ja9 f0_s jjo jiz jb1 jcb l1 l2 l3 l4 l5 l6 l7 l8 l9 hP hD hS hl hw; exact False.elim hw
  | succ n ih =>
    intro H locs ls jbd ja9 f0_s jjo jiz jb1 jcb l1 l2 l3 l4 l5 l6 l7 l8 l9 hP hD hS hl hw
    refine lv_iload hx hb (qaa qiN 12 rfl) (lv_at hl 9 rfl) ?_
    refine lv_iload_n hx hb (qaa qiN 13 rfl) rfl (lv_at hl 2 rfl) ?_
    refine lv_icmp_ge (tgt := 164) hx hb (qaa qiN 14 rfl) (by decide) (fun c13 => ?_) (fun c13 => ?_)
    · have hw := hw.1 c13
      refine lv_iload hx hb (qaa qhl 6 rfl) (lv_at hl 4 rfl) ?_
      refine lv_if_ne (tgt := 174) hx hb (qaa qhl 7 rfl) (by decide) (fun c14 => ?_) (fun c14 => ?_)
      · have hw := hw.1 c14
        refine lv_iload hx hb (qaa qhl 10 rfl) (lv_at hl 4 rfl) ?_
        refine lv_iconst (v := 1) hx hb (qaa qhl 11 rfl) (by decide) ?_
        refine lv_icmp_ne (tgt := 185) hx hb (qaa qhl 12 rfl) (by decide) (fun c15 => ?_) (fun c15 => ?_)
        · have hw := hw.1 c15
          refine lv_iload hx hb (qaa qhl 15 rfl) (lv_at hl 8 rfl) ?_
          exact ((W.iret (v := l8) hx hb hr (fun t ht hW => ⟨⟨l8, (jbd, ja9, f0_s, jjo, jiz, jb1, jcb), rfl, hw, by rw [ht]; exact hP, va_K.moved hW.alike hK, hD⟩, hS.F ht⟩) hS.2.2 (qaa qPE 0 rfl)))
        · have hw := hw.2 c15
          refine lv_iload hx hb (qaa qhl 13 rfl) (lv_at hl 7 rfl) ?_
          refine lv_goto (tgt := 187) hx hb (qaa qhl 14 rfl) (by decide) ?_
          exact ((W.iret (v := l7) hx hb hr (fun t ht hW => ⟨⟨l7, (jbd, ja9, f0_s, jjo, jiz, jb1, jcb), rfl, hw, by rw [ht]; exact hP, va_K.moved hW.alike hK, hD⟩, hS.F ht⟩) hS.2.2 (qaa qPE 0 rfl)))
      · have hw := hw.2 c14
        refine lv_iload hx hb (qaa qhl 8 rfl) (lv_at hl 6 rfl) ?_
        refine lv_goto (tgt := 187) hx hb (qaa qhl 9 rfl) (by decide) ?_
        exact ((W.iret (v := l6) hx hb hr (fun t ht hW => ⟨⟨l6, (jbd, ja9, f0_s, jjo, jiz, jb1, jcb), rfl, hw, by rw [ht]; exact hP, va_K.moved hW.alike hK, hD⟩, hS.F ht⟩) hS.2.2 (qaa qPE 0 rfl)))
    · have hw := hw.2 c13
      refine lv_aload_n hx hb (qaa qiN 15 rfl) rfl (lv_at hl 0 rfl) ?_
      refine lv_iload_n hx hb (qaa qjK 0 rfl) rfl (lv_at hl 1 rfl) ?_
      refine lv_iload hx hb (qaa qjK 1 rfl) (lv_at hl 9 rfl) ?_
      refine lv_iadd hx hb (qaa qjK 2 rfl) ?_
      refine lv_topi (fun x16 ex16 => ?_)
      have hw := hw x16 ex16
      refine lv_iload_n hx hb (qaa qjK 3 rfl) rfl (lv_at hl 3 rfl) ?_
      obtain ⟨hCc, hPc, hDc, hFc⟩ := qac (ws' := (qber a0 jbd jaQ jaD ja7 jby jbe jaM jaY jap jaK jal jam jax jao ja5 jb9 jbJ jae jag jaf jaN jaC jbw jaw jaI jbG jbg jbB jan jbD jbu jar jaL jah jaB jaa jaz jaH jab jaT a0_s jaq jai jaO jaA jat jau jav jaj jas jaJ jjo jiz jay jac jaT cyI jb2 a0_s cyI f0_s ja5 cyI jbv jbu cyI jb1 jbB cyI jcb jbG cyI jcu jbg cyI jbT jbJ cyI jcy jb9 cyI jdH)) hP hD hS hA [0, 2, 3, 4, 5, 6, 7, 8, 9, 10] (by decide +kernel) rfl
      refine va_callv (va_runV (As := [.int x16, .int l3]) (rest := []) ⟨hx, hb, hml, hown, hts⟩ (qZS l dC dI cyB cyI cyJ cyP a0 jaT a0_s ja5 jbu jbB jbG jbg jbJ jb9 H.size (.int jbd) (.ref jaQ) (jaD) (ja7) (jby) (jbe) (jaM) (jaY) (jap) (jaK) (jal) (jam) (jax) (jao) (jae) (jag) (jaf) (jaw) (jaI) (jan) (jar) (jaL) (jah) (jaB) (jaa) (jaz) (jaH) (jab) (jaq) (jai) (jaO) (jaA) (jat) (jau) (jav) (jaj) (jas) (jaJ) (jay) (jac) jaN jaC jbw jbD jb2 jbv jcu jbT jcy jdH f0_s jjo jiz jb1 jcb x16 l3 hw) (cwV 2 hts gX11_span_X11_marchGoes rfl rfl rfl (by decide +kernel) ⟨nbq rfl, nbq rfl⟩) ⟨qab, va_recv (q := (RX11, TX11, 55)) hK hPc (ci := 11) (q0 := 0) rfl rfl, qae hPc hK hDc hNw⟩ rfl rfl hl.1 rfl (lv_room (nbq rfl)) (qaa qjK 4 rfl) ⟨nbq rfl, nbq rfl⟩) hS (fun q _ h => hFc q h) hFc (fun u t H1 locs ht hvm hw hB hz1 hk1 hS => ?_)
      obtain ⟨f17, x18, x19, f20, f21⟩ := u
      obtain ⟨hP1, hK1, hD1⟩ := hB
      rw [ht] at hP1
      obtain ⟨hP, hD⟩ := qad (wr := (qbcD jaQ cyI ja9)) (w1 := (qber a0 jbd jaQ jaD ja7 jby jbe jaM jaY jap jaK jal jam jax jao ja5 jb9 jbJ jae jag jaf jaN jaC jbw jaw jaI jbG jbg jbB jan jbD jbu jar jaL jah jaB jaa jaz jaH jab jaT a0_s jaq jai jaO jaA jat jau jav jaj jas jaJ x18 x19 jay jac jaT cyI jb2 a0_s cyI f17 ja5 cyI jbv jbu cyI f20 jbB cyI f21 jbG cyI jcu jbg cyI jbT jbJ cyI jcy jb9 cyI jdH)) (wn := (qnu a0 jbd jaQ jaD ja7 jby jbe jaM jaY jap jaK jal jam jax jao ja5 jb9 jbJ jae jag jaf jaN jaC jbw jaw jaI jbG jbg jbB jan jbD jbu jar jaL jah jaB jaa jaz jaH jab jaT a0_s jaq jai jaO jaA jat jau jav jaj jas jaJ x18 x19 jay jac jaQ cyI ja9 jaT cyI jb2 a0_s cyI f17 ja5 cyI jbv jbu cyI f20 jbB cyI f21 jbG cyI jcu jbg cyI jbT jbJ cyI jcy jb9 cyI jdH)) hP hD [0, 2, 3, 4, 5, 6, 7, 8, 9, 10] [1] [1, 0, 2, 3, 4, 5, 6, 7, 8, 9, 10] hCc rfl (by decide +kernel) (by decide +kernel) (by decide +kernel) rfl hk1 hFc hP1 hD1
      generalize H1 = H at hP hS ⊢
      refine lv_iload hx hb (qaa qjK 5 rfl) (lv_at hl 6 rfl) ?_
      refine lv_iconst (v := (-1)) hx hb (qaa qjK 6 rfl) (by decide) ?_
      refine lv_icmp_eq (tgt := 108) hx hb (qaa qjK 7 rfl) (by decide) (fun c22 => ?_) (fun c22 => ?_)
      · have hw := hw.1 c22
        exact q2i dC dI cyB cyI cyJ cyP a0 jaQ jaT a0_s ja5 jbu jbB jbG jbg jbJ jb9 jaD ja7 jby jbe jaM jaY jap jaK jal jam jax jao jae jag jaf jaw jaI jan jar jaL jah jaB jaa jaz jaH jab jaq jai jaO jaA jat jau jav jaj jas jaJ jay jac jaN jaC jbw jbD jb2 jbv jcu jbT jcy jdH Q (qtC jaN jaC jbw jbD jb2 jbv jcu jbT jcy jdH Q n) ih C0 _ _ _ jbd ja9 f17 x18 x19 f20 f21 l1 l2 l3 l4 l5 l7 l8 l9 hP hD hS (lv_sub hl [0, 1, 2, 3, 4, 5, 7, 8, 9] rfl) hw
      · have hw := hw.2 c22
        refine lv_aload_n hx hb (qaa qjK 8 rfl) rfl (lv_at hl 0 rfl) ?_
        refine va_get (D := (dC, dI)) (ci := 11) (v := .int x19) (C := RX11) (T := TX11) (N := 55) hx hb hts qyD hown hK hP 0 rfl rfl 52 (by decide) (hts _ qE7) (fun _ h9 => h9) rfl (qaa qjK 9 rfl) ?_
        refine lv_iload hx hb (qaa qjK 10 rfl) (lv_at hl 6 rfl) ?_
        refine lv_icmp_ge (tgt := 115) hx hb (qaa qjK 11 rfl) (by decide) (fun c23 => ?_) (fun c23 => ?_)
        · have hw := hw.1 c23
          refine lv_iload hx hb (qaa qjK 15 rfl) (lv_at hl 6 rfl) ?_
          exact q0T dC dI cyB cyI cyJ cyP a0 jaQ jaT a0_s ja5 jbu jbB jbG jbg jbJ jb9 jaD ja7 jby jbe jaM jaY jap jaK jal jam jax jao jae jag jaf jaw jaI jan jar jaL jah jaB jaa jaz jaH jab jaq jai jaO jaA jat jau jav jaj jas jaJ jay jac jaN jaC jbw jbD jb2 jbv jcu jbT jcy jdH Q (qtC jaN jaC jbw jbD jb2 jbv jcu jbT jcy jdH Q n) ih C0 _ _ _ jbd ja9 f17 x18 x19 f20 f21 l1 l2 l3 l4 l5 l7 l8 l9 l6 hP hD hS (lv_sub hl [0, 1, 2, 3, 4, 5, 7, 8, 9] rfl) hw
        · have hw := hw.2 c23
          exact q2i dC dI cyB cyI cyJ cyP a0 jaQ jaT a0_s ja5 jbu jbB jbG jbg jbJ jb9 jaD ja7 jby jbe jaM jaY jap jaK jal jam jax jao jae jag jaf jaw jaI jan jar jaL jah jaB jaa jaz jaH jab jaq jai jaO jaA jat jau jav jaj jas jaJ jay jac jaN jaC jbw jbD jb2 jbv jcu jbT jcy jdH Q (qtC jaN jaC jbw jbD jb2 jbv jcu jbT jcy jdH Q n) ih C0 _ _ _ jbd ja9 f17 x18 x19 f20 f21 l1 l2 l3 l4 l5 l7 l8 l9 hP hD hS (lv_sub hl [0, 1, 2, 3, 4, 5, 7, 8, 9] rfl) hw
set_option maxHeartbeats 4000000 in
set_option maxRecDepth 100000 in
theorem q70 {p : Program} {l : Launch} {e : Env} {s : State} {m : MethodId} {args : Array Value} {below : List Frame} {meth : Method} {c : Code} {A : Nat → Prop} (dC : Nat → ClassId) (dI : Nat → Nat → Nat) (cyB cyI cyJ cyP : ClassId) (a0 jaQ jaT a0_s ja5 jbu jbB jbG jbg jbJ jb9 : Nat) (jaD ja7 jby jbe jaM jaY jap jaK jal jam jax jao jae jag jaf jaw jaI jan jar jaL jah jaB jaa jaz jaH jab jaq jai jaO jaA jat jau jav jaj jas jaJ jay jac : Value) (jaN jaC jbw jbD : Int32) (jb2 jbv jcu jbT jcy jdH : NI) (Q : Int32 → Int32 → NI → NI → Int32 → Int32 → NI → NI → Prop) (C0 : cfx p s m args meth c cX11_span (some .int) wsX11_span RX11 10 A (dC, dI) (kT cyB cyI cyJ cyP)) : ∀ (H : Heap) (locs : List Loc) (ls : Array Slot) (jbd : Int32) (ja9 f0_s : NI) (jjo jiz : Int32) (jb1 jcb : NI) (l1 l2 l3 l4 l5 s1 : Int32), va_P (dC, dI) vwCl (qnu a0 jbd jaQ jaD ja7 jby jbe jaM jaY jap jaK jal jam jax jao ja5 jb9 jbJ jae jag jaf jaN jaC jbw jaw jaI jbG jbg jbB jan jbD jbu jar jaL jah jaB jaa jaz jaH jab jaT a0_s jaq jai jaO jaA jat jau jav jaj jas jaJ jjo jiz jay jac jaQ cyI ja9 jaT cyI jb2 a0_s cyI f0_s ja5 cyI jbv jbu cyI jb1 jbB cyI jcb jbG cyI jcu jbg cyI jbT jbJ cyI jcy jb9 cyI jdH) H → va_D A (qnu a0 jbd jaQ jaD ja7 jby jbe jaM jaY jap jaK jal jam jax jao ja5 jb9 jbJ jae jag jaf jaN jaC jbw jaw jaI jbG jbg jbB jan jbD jbu jar jaL jah jaB jaa jaz jaH jab jaT a0_s jaq jai jaO jaA jat jau jav jaj jas jaJ jjo jiz jay jac jaQ cyI ja9 jaT cyI jb2 a0_s cyI f0_s ja5 cyI jbv jbu cyI jb1 jbB cyI jcb jbG cyI jcu jbg cyI jbT jbJ cyI jcy jb9 cyI jdH) → va_S A s.heap H locs → lv_has ls 10 [(0, .ref a0), (1, .int l1), (2, .int l2), (3, .int l3), (4, .int l4), (5, .int l5)] → qTH jaN jaC jbw jbD jb2 jbv jcu jbT jcy jdH Q jbd ja9 f0_s jjo jiz jb1 jcb l1 l2 l3 l4 l5 s1 → W p l e (headSpec wsX11_span ({ frames := 8, cells := 0, slots := 0, locals := 183 })).room s m args below meth c H locs 0 0 (MQ below (va_Qi (fun (r : Int32) (u : Int32 × NI × NI × Int32 × Int32 × NI × NI) => Q r u.1 u.2.1 u.2.2.1 u.2.2.2.1 u.2.2.2.2.1 u.2.2.2.2.2.1 u.2.2.2.2.2.2) (cB (dC, dI) (kT cyB cyI cyJ cyP) A (fun u : Int32 × NI × NI × Int32 × Int32 × NI × NI => ((qnu a0 u.1 jaQ jaD ja7 jby jbe jaM jaY jap jaK jal jam jax jao ja5 jb9 jbJ jae jag jaf jaN jaC jbw jaw jaI jbG jbg jbB jan jbD jbu jar jaL jah jaB jaa jaz jaH jab jaT a0_s jaq jai jaO jaA jat jau jav jaj jas jaJ u.2.2.2.1 u.2.2.2.2.1 jay jac jaQ cyI u.2.1 jaT cyI jb2 a0_s cyI u.2.2.1 ja5 cyI jbv jbu cyI u.2.2.2.2.2.1 jbB cyI u.2.2.2.2.2.2 jbG cyI jcu jbg cyI jbT jbJ cyI jcy jb9 cyI jdH) : va_W))) A) args s 0 0 A) (F0 m 56 ls [.int s1, .ref a0]) := by
  obtain ⟨hx, hb, hr, hts, hown, hlocks, hml, hA, hK, hNw⟩ := id C0
  intro H locs ls jbd ja9 f0_s jjo jiz jb1 jcb l1 l2 l3 l4 l5 s1 hP hD hS hl hw
  refine lv_iconst (v := 1) hx hb (qaa qjP 14 rfl) (by decide) ?_
  refine lv_iconst (v := 1) hx hb (qaa qjP 15 rfl) (by decide) ?_
  obtain ⟨hCc, hPc, hDc, hFc⟩ := qac (ws' := (qbes a0 jbd jaQ jaD ja7 jby jbe jaM jaY jap jaK jal jam jax jao ja5 jb9 jbJ jae jag jaf jaN jaC jbw jaw jaI jbG jbg jbB jan jbD jbu jar jaL jah jaB jaa jaz jaH jab jaT a0_s jaq jai jaO jaA jat jau jav jaj jas jaJ jjo jiz jay jac jaQ cyI ja9)) hP hD hS hA [0, 1] (by decide +kernel) rfl
  refine va_calli (va_runV (As := [.int s1, .int 1, .int 1]) (rest := []) ⟨hx, hb, hml, hown, hts⟩ (qkE l dC dI cyB cyI cyJ cyP a0 jaQ H.size (jaD) (ja7) (jby) (jbe) (jaM) (jaY) (jap) (jaK) (jal) (jam) (jax) (jao) (.ref ja5) (.ref jb9) (.ref jbJ) (jae) (jag) (jaf) (.int jaN) (.int jaC) (.int jbw) (jaw) (jaI) (.ref jbG) (.ref jbg) (.ref jbB) (jan) (.int jbD) (.ref jbu) (jar) (jaL) (jah) (jaB) (jaa) (jaz) (jaH) (jab) (.ref jaT) (.ref a0_s) (jaq) (jai) (jaO) (jaA) (jat) (jau) (jav) (jaj) (jas) (jaJ) (.int jjo) (.int jiz) (jay) (jac) jbd ja9 s1 1 1 hw) (cwV 3 hts gX11_span_X11_may rfl rfl rfl (by decide +kernel) ⟨nbq rfl, nbq rfl⟩) ⟨qab, va_recv (q := (RX11, TX11, 55)) hK hPc (ci := 11) (q0 := 0) rfl rfl, qae hPc hK hDc hNw⟩ rfl rfl hl.1 rfl (lv_room (nbq rfl)) (qaa qiN 0 rfl) ⟨nbq rfl, nbq rfl⟩) hS (fun q _ h => hFc q h) hFc (fun r11 u t H1 locs ht hvm hw hB hz1 hk1 hS => ?_)
  obtain ⟨x9, f10⟩ := u
  obtain ⟨hP1, hK1, hD1⟩ := hB
  rw [ht] at hP1
  obtain ⟨hP, hD⟩ := qad (wr := [(jaT, .inl (cyI, 68, .inl jb2)), (a0_s, .inl (cyI, 68, .inl f0_s)), (ja5, .inl (cyI, 16, .inl jbv)), (jbu, .inl (cyI, 8, .inl jb1)), (jbB, .inl (cyI, 150, .inl jcb)), (jbG, .inl (cyI, 150, .inl jcu)), (jbg, .inl (cyI, 150, .inl jbT)), (jbJ, .inl (cyI, 8, .inl jcy)), (jb9, .inl (cyI, 12, .inl jdH))]) (w1 := (qbes a0 x9 jaQ jaD ja7 jby jbe jaM jaY jap jaK jal jam jax jao ja5 jb9 jbJ jae jag jaf jaN jaC jbw jaw jaI jbG jbg jbB jan jbD jbu jar jaL jah jaB jaa jaz jaH jab jaT a0_s jaq jai jaO jaA jat jau jav jaj jas jaJ jjo jiz jay jac jaQ cyI f10)) (wn := (qnu a0 x9 jaQ jaD ja7 jby jbe jaM jaY jap jaK jal jam jax jao ja5 jb9 jbJ jae jag jaf jaN jaC jbw jaw jaI jbG jbg jbB jan jbD jbu jar jaL jah jaB jaa jaz jaH jab jaT a0_s jaq jai jaO jaA jat jau jav jaj jas jaJ jjo jiz jay jac jaQ cyI f10 jaT cyI jb2 a0_s cyI f0_s ja5 cyI jbv jbu cyI jb1 jbB cyI jcb jbG cyI jcu jbg cyI jbT jbJ cyI jcy jb9 cyI jdH)) hP hD [0, 1] [2, 3, 4, 5, 6, 7, 8, 9, 10] [9, 10, 0, 1, 2, 3, 4, 5, 6, 7, 8] hCc rfl (by decide +kernel) (by decide +kernel) (by decide +kernel) rfl hk1 hFc hP1 hD1
  generalize H1 = H at hP hS ⊢
  refine lv_if_ne (tgt := 66) hx hb (qaa qiN 1 rfl) (by decide) (fun c12 => ?_) (fun c12 => ?_)
  · have hw := hw.1 c12
    refine lv_iconst (v := (-1)) hx hb (qaa qiN 4 rfl) (by decide) ?_
    refine lv_istore (lv' := [(6, .int (-1)), (0, .ref a0), (1, .int l1), (2, .int l2), (3, .int l3), (4, .int l4), (5, .int l5)]) hx hb (qaa qiN 5 rfl) hl (by decide) rfl (fun ls hl => ?_)
    refine lv_iconst (v := 0) hx hb (qaa qiN 6 rfl) (by decide) ?_
    refine lv_istore (lv' := [(7, .int 0), (6, .int (-1)), (0, .ref a0), (1, .int l1), (2, .int l2), (3, .int l3), (4, .int l4), (5, .int l5)]) hx hb (qaa qiN 7 rfl) hl (by decide) rfl (fun ls hl => ?_)
    refine lv_iconst (v := 0) hx hb (qaa qiN 8 rfl) (by decide) ?_
    refine lv_istore (lv' := [(8, .int 0), (7, .int 0), (6, .int (-1)), (0, .ref a0), (1, .int l1), (2, .int l2), (3, .int l3), (4, .int l4), (5, .int l5)]) hx hb (qaa qiN 9 rfl) hl (by decide) rfl (fun ls hl => ?_)
    refine lv_iconst (v := 0) hx hb (qaa qiN 10 rfl) (by decide) ?_
    refine lv_istore (lv' := [(9, .int 0), (8, .int 0), (7, .int 0), (6, .int (-1)), (0, .ref a0), (1, .int l1), (2, .int l2), (3, .int l3), (4, .int l4), (5, .int l5)]) hx hb (qaa qiN 11 rfl) hl (by decide) rfl (fun ls hl => ?_)
    obtain ⟨n9, hw⟩ := hw
    exact qaFE dC dI cyB cyI cyJ cyP a0 jaQ jaT a0_s ja5 jbu jbB jbG jbg jbJ jb9 jaD ja7 jby jbe jaM jaY jap jaK jal jam jax jao jae jag jaf jaw jaI jan jar jaL jah jaB jaa jaz jaH jab jaq jai jaO jaA jat jau jav jaj jas jaJ jay jac jaN jaC jbw jbD jb2 jbv jcu jbT jcy jdH Q C0 n9 _ _ _ x9 f10 f0_s jjo jiz jb1 jcb l1 l2 l3 l4 l5 (-1) 0 0 0 hP hD hS (lv_sub hl [4, 5, 6, 7, 8, 9, 3, 2, 1, 0] rfl) hw
  · have hw := hw.2 c12
    refine lv_iconst (v := 0) hx hb (qaa qiN 2 rfl) (by decide) ?_
    exact ((W.iret (v := 0) hx hb hr (fun t ht hW => ⟨⟨0, (x9, f10, f0_s, jjo, jiz, jb1, jcb), rfl, hw, by rw [ht]; exact hP, va_K.moved hW.alike hK, hD⟩, hS.F ht⟩) hS.2.2 (qaa qiN 3 rfl)))
set_option maxHeartbeats 4000000 in
set_option maxRecDepth 100000 in
theorem qKl {p : Program} {l : Launch} {e : Env} {s : State} {m : MethodId} {args : Array Value} {below : List Frame} {meth : Method} {c : Code} {A : Nat → Prop} (dC : Nat → ClassId) (dI : Nat → Nat → Nat) (cyB cyI cyJ cyP : ClassId) (a0 jaQ jaT a0_s ja5 jbu jbB jbG jbg jbJ jb9 : Nat) (jaD ja7 jby jbe jaM jaY jap jaK jal jam jax jao jae jag jaf jaw jaI jan jar jaL jah jaB jaa jaz jaH jab jaq jai jaO jaA jat jau jav jaj jas jaJ jay jac : Value) (jaN jaC jbw jbD : Int32) (jb2 jbv jcu jbT jcy jdH : NI) (Q : Int32 → Int32 → NI → NI → Int32 → Int32 → NI → NI → Prop) (C0 : cfx p s m args meth c cX11_span (some .int) wsX11_span RX11 10 A (dC, dI) (kT cyB cyI cyJ cyP)) : ∀ (H : Heap) (locs : List Loc) (ls : Array Slot) (jbd : Int32) (ja9 f0_s : NI) (jjo jiz : Int32) (jb1 jcb : NI) (l1 l2 l3 l4 l5 : Int32), va_P (dC, dI) vwCl (qnu a0 jbd jaQ jaD ja7 jby jbe jaM jaY jap jaK jal jam jax jao ja5 jb9 jbJ jae jag jaf jaN jaC jbw jaw jaI jbG jbg jbB jan jbD jbu jar jaL jah jaB jaa jaz jaH jab jaT a0_s jaq jai jaO jaA jat jau jav jaj jas jaJ jjo jiz jay jac jaQ cyI ja9 jaT cyI jb2 a0_s cyI f0_s ja5 cyI jbv jbu cyI jb1 jbB cyI jcb jbG cyI jcu jbg cyI jbT jbJ cyI jcy jb9 cyI jdH) H → va_D A (qnu a0 jbd jaQ jaD ja7 jby jbe jaM jaY jap jaK jal jam jax jao ja5 jb9 jbJ jae jag jaf jaN jaC jbw jaw jaI jbG jbg jbB jan jbD jbu jar jaL jah jaB jaa jaz jaH jab jaT a0_s jaq jai jaO jaA jat jau jav jaj jas jaJ jjo jiz jay jac jaQ cyI ja9 jaT cyI jb2 a0_s cyI f0_s ja5 cyI jbv jbu cyI jb1 jbB cyI jcb jbG cyI jcu jbg cyI jbT jbJ cyI jcy jb9 cyI jdH) → va_S A s.heap H locs → lv_has ls 10 [(0, .ref a0), (1, .int l1), (2, .int l2), (3, .int l3), (4, .int l4), (5, .int l5)] → qD0 jaN jaC jbw jbD jb2 jbv jcu jbT jcy jdH Q jbd ja9 f0_s jjo jiz jb1 jcb l1 l2 l3 l4 l5 → W p l e (headSpec wsX11_span ({ frames := 8, cells := 0, slots := 0, locals := 183 })).room s m args below meth c H locs 0 0 (MQ below (va_Qi (fun (r : Int32) (u : Int32 × NI × NI × Int32 × Int32 × NI × NI) => Q r u.1 u.2.1 u.2.2.1 u.2.2.2.1 u.2.2.2.2.1 u.2.2.2.2.2.1 u.2.2.2.2.2.2) (cB (dC, dI) (kT cyB cyI cyJ cyP) A (fun u : Int32 × NI × NI × Int32 × Int32 × NI × NI => ((qnu a0 u.1 jaQ jaD ja7 jby jbe jaM jaY jap jaK jal jam jax jao ja5 jb9 jbJ jae jag jaf jaN jaC jbw jaw jaI jbG jbg jbB jan jbD jbu jar jaL jah jaB jaa jaz jaH jab jaT a0_s jaq jai jaO jaA jat jau jav jaj jas jaJ u.2.2.2.1 u.2.2.2.2.1 jay jac jaQ cyI u.2.1 jaT cyI jb2 a0_s cyI u.2.2.1 ja5 cyI jbv jbu cyI u.2.2.2.2.2.1 jbB cyI u.2.2.2.2.2.2 jbG cyI jcu jbg cyI jbT jbJ cyI jcy jb9 cyI jdH) : va_W))) A) args s 0 0 A) (F0 m 55 ls [.ref a0]) := by
  obtain ⟨hx, hb, hr, hts, hown, hlocks, hml, hA, hK, hNw⟩ := id C0
  intro H locs ls jbd ja9 f0_s jjo jiz jb1 jcb l1 l2 l3 l4 l5 hP hD hS hl hw
  refine lv_iconst (v := 0) hx hb (qaa qjP 13 rfl) (by decide) ?_
  exact q70 dC dI cyB cyI cyJ cyP a0 jaQ jaT a0_s ja5 jbu jbB jbG jbg jbJ jb9 jaD ja7 jby jbe jaM jaY jap jaK jal jam jax jao jae jag jaf jaw jaI jan jar jaL jah jaB jaa jaz jaH jab jaq jai jaO jaA jat jau jav jaj jas jaJ jay jac jaN jaC jbw jbD jb2 jbv jcu jbT jcy jdH Q C0 _ _ _ jbd ja9 f0_s jjo jiz jb1 jcb l1 l2 l3 l4 l5 0 hP hD hS (lv_sub hl [0, 1, 2, 3, 4, 5] rfl) hw
set_option maxHeartbeats 4000000 in
set_option maxRecDepth 100000 in
theorem qaZO (l : Launch) (dC : Nat → ClassId) (dI : Nat → Nat → Nat) (cyB cyI cyJ cyP : ClassId) (a0 jaQ jaT a0_s ja5 jbu jbB jbG jbg jbJ jb9 sz : Nat) (jaD ja7 jby jbe jaM jaY jap jaK jal jam jax jao jae jag jaf jaw jaI jan jar jaL jah jaB jaa jaz jaH jab jaq jai jaO jaA jat jau jav jaj jas jaJ jay jac : Value) (jaN jaC jbw jbD : Int32) (jb2 jbv jcu jbT jcy jdH : NI) (jbd : Int32) (ja9 f0_s : NI) (jjo jiz : Int32) (jb1 jcb : NI) (p1 p2 p3 p4 p5 : Int32) {Q : Int32 → Int32 → NI → NI → Int32 → Int32 → NI → NI → Prop} (hw : qabE jaN jaC jbw jbD jb2 jbv jcu jbT jcy jdH jbd ja9 f0_s jjo jiz jb1 jcb p1 p2 p3 p4 p5 Q) : Met l yX11_span wsX11_span ({ frames := 8, cells := 0, slots := 0, locals := 183 }) (va_Pc [.ref a0, .int p1, .int p2, .int p3, .int p4, .int p5] (cPc (dC, dI) (kT cyB cyI cyJ cyP) (qnu a0 jbd jaQ jaD ja7 jby jbe jaM jaY jap jaK jal jam jax jao ja5 jb9 jbJ jae jag jaf jaN jaC jbw jaw jaI jbG jbg jbB jan jbD jbu jar jaL jah jaB jaa jaz jaH jab jaT a0_s jaq jai jaO jaA jat jau jav jaj jas jaJ jjo jiz jay jac jaQ cyI ja9 jaT cyI jb2 a0_s cyI f0_s ja5 cyI jbv jbu cyI jb1 jbB cyI jcb jbG cyI jcu jbg cyI jbT jbJ cyI jcy jb9 cyI jdH) sz)) (va_Qi (fun (r : Int32) (u : Int32 × NI × NI × Int32 × Int32 × NI × NI) => Q r u.1 u.2.1 u.2.2.1 u.2.2.2.1 u.2.2.2.2.1 u.2.2.2.2.2.1 u.2.2.2.2.2.2) (cB (dC, dI) (kT cyB cyI cyJ cyP) (va_A (qnu a0 jbd jaQ jaD ja7 jby jbe jaM jaY jap jaK jal jam jax jao ja5 jb9 jbJ jae jag jaf jaN jaC jbw jaw jaI jbG jbg jbB jan jbD jbu jar jaL jah jaB jaa jaz jaH jab jaT a0_s jaq jai jaO jaA jat jau jav jaj jas jaJ jjo jiz jay jac jaQ cyI ja9 jaT cyI jb2 a0_s cyI f0_s ja5 cyI jbv jbu cyI jb1 jbB cyI jcb jbG cyI jcu jbg cyI jbT jbJ cyI jcy jb9 cyI jdH) sz) (fun u : Int32 × NI × NI × Int32 × Int32 × NI × NI => ((qnu a0 u.1 jaQ jaD ja7 jby jbe jaM jaY jap jaK jal jam jax jao ja5 jb9 jbJ jae jag jaf jaN jaC jbw jaw jaI jbG jbg jbB jan jbD jbu jar jaL jah jaB jaa jaz jaH jab jaT a0_s jaq jai jaO jaA jat jau jav jaj jas jaJ u.2.2.2.1 u.2.2.2.2.1 jay jac jaQ cyI u.2.1 jaT cyI jb2 a0_s cyI u.2.2.1 ja5 cyI jbv jbu cyI u.2.2.2.2.2.1 jbB cyI u.2.2.2.2.2.2 jbG cyI jcu jbg cyI jbT jbJ cyI jcy jb9 cyI jdH) : va_W))) (va_A (qnu a0 jbd jaQ jaD ja7 jby jbe jaM jaY jap jaK jal jam jax jao ja5 jb9 jbJ jae jag jaf jaN jaC jbw jaw jaI jbG jbg jbB jan jbD jbu jar jaL jah jaB jaa jaz jaH jab jaT a0_s jaq jai jaO jaA jat jau jav jaj jas jaJ jjo jiz jay jac jaQ cyI ja9 jaT cyI jb2 a0_s cyI f0_s ja5 cyI jbv jbu cyI jb1 jbB cyI jcb jbG cyI jcu jbg cyI jbT jbJ cyI jcy jb9 cyI jdH) sz)) 0 0 (va_A (qnu a0 jbd jaQ jaD ja7 jby jbe jaM jaY jap jaK jal jam jax jao ja5 jb9 jbJ jae jag jaf jaN jaC jbw jaw jaI jbG jbg jbB jan jbD jbu jar jaL jah jaB jaa jaz jaH jab jaT a0_s jaq jai jaO jaA jat jau jav jaj jas jaJ jjo jiz jay jac jaQ cyI ja9 jaT cyI jb2 a0_s cyI f0_s ja5 cyI jbv jbu cyI jb1 jbB cyI jcb jbG cyI jcu jbg cyI jbT jbJ cyI jcy jb9 cyI jdH) sz) := by
  refine Met.ofW (cc := cX11_span) (maxL := 10) (ret := (some .int)) (by decide) rfl ?_
  intro p e s m args below meth c s₁ B hml hv
  obtain ⟨rfl, hsz, hP, hK, hD0, hNw⟩ := hv
  have hx := B.exec
  have hb := B.bytes
  have hr := B.returns
  have hts := atoms_spec (ws := wsX11_span) B.pre
  have hown : s.vm.findClass RX11 = some m.cls := findClass_of_methodNamed B.named
  have hlocks := B.notSynchronized
  subst hsz
  have hD := hD0.self (sz := s.heap.size)
  generalize hAe : va_A (qnu a0 jbd jaQ jaD ja7 jby jbe jaM jaY jap jaK jal jam jax jao ja5 jb9 jbJ jae jag jaf jaN jaC jbw jaw jaI jbG jbg jbB jan jbD jbu jar jaL jah jaB jaa jaz jaH jab jaT a0_s jaq jai jaO jaA jat jau jav jaj jas jaJ jjo jiz jay jac jaQ cyI ja9 jaT cyI jb2 a0_s cyI f0_s ja5 cyI jbv jbu cyI jb1 jbB cyI jcb jbG cyI jcu jbg cyI jbT jbJ cyI jcy jb9 cyI jdH) s.heap.size = A at hD ⊢
  have hA : ∀ q : Nat, s.heap.size ≤ q → A q := fun q h => by rw [← hAe]; exact Or.inr h
  have hS : va_S A s.heap s.heap [] := va_S.rf
  have hP : va_P (dC, dI) vwCl (qnu a0 jbd jaQ jaD ja7 jby jbe jaM jaY jap jaK jal jam jax jao ja5 jb9 jbJ jae jag jaf jaN jaC jbw jaw jaI jbG jbg jbB jan jbD jbu jar jaL jah jaB jaa jaz jaH jab jaT a0_s jaq jai jaO jaA jat jau jav jaj jas jaJ jjo jiz jay jac jaQ cyI ja9 jaT cyI jb2 a0_s cyI f0_s ja5 cyI jbv jbu cyI jb1 jbB cyI jcb jbG cyI jcu jbg cyI jbT jbJ cyI jcy jb9 cyI jdH) s.heap := hP
  have hl := lv_entry ([.ref a0, .int p1, .int p2, .int p3, .int p4, .int p5]) (n := 10) (nbq rfl)
  rw [lg_entry_eq]
  generalize (lg_sl ([.ref a0, .int p1, .int p2, .int p3, .int p4, .int p5]) ++ List.replicate (10 - (lg_sl ([.ref a0, .int p1, .int p2, .int p3, .int p4, .int p5])).length) Slot.unset).toArray = ls at hl ⊢
  have hl : lv_has ls 10 [(0, .ref a0), (1, .int p1), (2, .int p2), (3, .int p3), (4, .int p4), (5, .int p5)] := hl
  have C0 : cfx p s m _ meth c cX11_span (some .int) wsX11_span RX11 10 A (dC, dI) (kT cyB cyI cyJ cyP) := ⟨hx, hb, hr, hts, hown, hlocks, hml, hA, hK, hNw⟩
  clear hAe
  obtain ⟨H, hH⟩ : ∃ H, H = s.heap := ⟨_, rfl⟩
  rw [← hH] at hP ⊢
  have hS : va_S A s.heap H [] := by rw [hH]; exact va_S.rf
  have hS := hS
  refine lv_aload_n hx hb (qaa qmv 0 rfl) rfl (lv_at hl 0 rfl) ?_
  refine lv_iconst (v := 0) hx hb (qaa qmv 1 rfl) (by decide) ?_
  refine va_put (D := (dC, dI)) (ci := 11) (v := .int 0) (ty := .int) (C := RX11) (T := TX11) (N := 55) hx hb hts qyD tyX11 tyX11_ok nmX11 hown hK hP hD hS 0 rfl rfl 0 (by decide) (hts _ qaFt) (fun _ h9 => h9) rfl (by decide +kernel) rfl rfl (nbq rfl) (qaa qmv 2 rfl) (fun H locs hP hD hS => ?_)
  have hP : va_P (dC, dI) vwCl (qnu a0 0 jaQ jaD ja7 jby jbe jaM jaY jap jaK jal jam jax jao ja5 jb9 jbJ jae jag jaf jaN jaC jbw jaw jaI jbG jbg jbB jan jbD jbu jar jaL jah jaB jaa jaz jaH jab jaT a0_s jaq jai jaO jaA jat jau jav jaj jas jaJ jjo jiz jay jac jaQ cyI ja9 jaT cyI jb2 a0_s cyI f0_s ja5 cyI jbv jbu cyI jb1 jbB cyI jcb jbG cyI jcu jbg cyI jbT jbJ cyI jcy jb9 cyI jdH) H := hP
  have hD : va_D A (qnu a0 0 jaQ jaD ja7 jby jbe jaM jaY jap jaK jal jam jax jao ja5 jb9 jbJ jae jag jaf jaN jaC jbw jaw jaI jbG jbg jbB jan jbD jbu jar jaL jah jaB jaa jaz jaH jab jaT a0_s jaq jai jaO jaA jat jau jav jaj jas jaJ jjo jiz jay jac jaQ cyI ja9 jaT cyI jb2 a0_s cyI f0_s ja5 cyI jbv jbu cyI jb1 jbB cyI jcb jbG cyI jcu jbg cyI jbT jbJ cyI jcy jb9 cyI jdH) := hD
  refine lv_aload_n hx hb (qaa qmv 3 rfl) rfl (lv_at hl 0 rfl) ?_
  refine lv_iload_n hx hb (qaa qmv 4 rfl) rfl (lv_at hl 2 rfl) ?_
  refine lv_iconst (v := 1) hx hb (qaa qmv 5 rfl) (by decide) ?_
  refine lv_bipush (v := 20) hx hb (qaa qmv 6 rfl) (by decide) ?_
  obtain ⟨hCc, hPc, hDc, hFc⟩ := qac (ws' := []) hP hD hS hA [] (by decide +kernel) rfl
  refine va_calli (va_runS (As := [.int p2, .int 1, .int 20]) (rest := [.ref a0]) ⟨hx, hb, hml, hown, hts⟩ (qbG l dC dI cyB cyI cyJ cyP H.size p2 1 20 hw) (va_cwS 3 hts gX11_span_X11_within rfl rfl rfl (by decide +kernel) ⟨nbq rfl, nbq rfl⟩) ⟨qab, qae hPc hK hDc hNw⟩ rfl rfl hl.1 rfl (lv_room (nbq rfl)) (qaa qmv 7 rfl) ⟨nbq rfl, nbq rfl⟩) hS (fun q _ h => hFc q h) hFc (fun r1 u t H1 locs ht hvm hw hB hz1 hk1 hS => ?_)
  obtain ⟨hP1, hK1, hD1⟩ := hB
  rw [ht] at hP1
  obtain ⟨hP, hD⟩ := qah (wr := (qnu a0 0 jaQ jaD ja7 jby jbe jaM jaY jap jaK jal jam jax jao ja5 jb9 jbJ jae jag jaf jaN jaC jbw jaw jaI jbG jbg jbB jan jbD jbu jar jaL jah jaB jaa jaz jaH jab jaT a0_s jaq jai jaO jaA jat jau jav jaj jas jaJ jjo jiz jay jac jaQ cyI ja9 jaT cyI jb2 a0_s cyI f0_s ja5 cyI jbv jbu cyI jb1 jbB cyI jcb jbG cyI jcu jbg cyI jbT jbJ cyI jcy jb9 cyI jdH)) (w1 := []) (wn := (qnu a0 0 jaQ jaD ja7 jby jbe jaM jaY jap jaK jal jam jax jao ja5 jb9 jbJ jae jag jaf jaN jaC jbw jaw jaI jbG jbg jbB jan jbD jbu jar jaL jah jaB jaa jaz jaH jab jaT a0_s jaq jai jaO jaA jat jau jav jaj jas jaJ jjo jiz jay jac jaQ cyI ja9 jaT cyI jb2 a0_s cyI f0_s ja5 cyI jbv jbu cyI jb1 jbB cyI jcb jbG cyI jcu jbg cyI jbT jbJ cyI jcy jb9 cyI jdH)) hP hD [] [0, 1, 2, 3, 4, 5, 6, 7, 8, 9, 10] hCc rfl (by decide +kernel) (by decide +kernel) rfl hk1 hFc hP1 hD1
  generalize H1 = H at hP hS ⊢
  refine lv_if_eq (tgt := 55) hx hb (qaa qmv 8 rfl) (by decide) (fun c2 => ?_) (fun c2 => ?_)
  · have hw := hw.1 c2
    exact qKl dC dI cyB cyI cyJ cyP a0 jaQ jaT a0_s ja5 jbu jbB jbG jbg jbJ jb9 jaD ja7 jby jbe jaM jaY jap jaK jal jam jax jao jae jag jaf jaw jaI jan jar jaL jah jaB jaa jaz jaH jab jaq jai jaO jaA jat jau jav jaj jas jaJ jay jac jaN jaC jbw jbD jb2 jbv jcu jbT jcy jdH Q C0 _ _ _ 0 ja9 f0_s jjo jiz jb1 jcb p1 p2 p3 p4 p5 hP hD hS (lv_sub hl [0, 1, 2, 3, 4, 5] rfl) hw
  · have hw := hw.2 c2
    refine lv_iload_n hx hb (qaa qmv 9 rfl) rfl (lv_at hl 3 rfl) ?_
    refine lv_iconst (v := 1) hx hb (qaa qmv 10 rfl) (by decide) ?_
    refine lv_bipush (v := 96) hx hb (qaa qmv 11 rfl) (by decide) ?_
    obtain ⟨hCc, hPc, hDc, hFc⟩ := qac (ws' := []) hP hD hS hA [] (by decide +kernel) rfl
    refine va_calli (va_runS (As := [.int p3, .int 1, .int 96]) (rest := [.ref a0]) ⟨hx, hb, hml, hown, hts⟩ (qbG l dC dI cyB cyI cyJ cyP H.size p3 1 96 hw) (va_cwS 3 hts gX11_span_X11_within rfl rfl rfl (by decide +kernel) ⟨nbq rfl, nbq rfl⟩) ⟨qab, qae hPc hK hDc hNw⟩ rfl rfl hl.1 rfl (lv_room (nbq rfl)) (qaa qmv 12 rfl) ⟨nbq rfl, nbq rfl⟩) hS (fun q _ h => hFc q h) hFc (fun r3 u t H1 locs ht hvm hw hB hz1 hk1 hS => ?_)
    obtain ⟨hP1, hK1, hD1⟩ := hB
    rw [ht] at hP1
    obtain ⟨hP, hD⟩ := qah (wr := (qnu a0 0 jaQ jaD ja7 jby jbe jaM jaY jap jaK jal jam jax jao ja5 jb9 jbJ jae jag jaf jaN jaC jbw jaw jaI jbG jbg jbB jan jbD jbu jar jaL jah jaB jaa jaz jaH jab jaT a0_s jaq jai jaO jaA jat jau jav jaj jas jaJ jjo jiz jay jac jaQ cyI ja9 jaT cyI jb2 a0_s cyI f0_s ja5 cyI jbv jbu cyI jb1 jbB cyI jcb jbG cyI jcu jbg cyI jbT jbJ cyI jcy jb9 cyI jdH)) (w1 := []) (wn := (qnu a0 0 jaQ jaD ja7 jby jbe jaM jaY jap jaK jal jam jax jao ja5 jb9 jbJ jae jag jaf jaN jaC jbw jaw jaI jbG jbg jbB jan jbD jbu jar jaL jah jaB jaa jaz jaH jab jaT a0_s jaq jai jaO jaA jat jau jav jaj jas jaJ jjo jiz jay jac jaQ cyI ja9 jaT cyI jb2 a0_s cyI f0_s ja5 cyI jbv jbu cyI jb1 jbB cyI jcb jbG cyI jcu jbg cyI jbT jbJ cyI jcy jb9 cyI jdH)) hP hD [] [0, 1, 2, 3, 4, 5, 6, 7, 8, 9, 10] hCc rfl (by decide +kernel) (by decide +kernel) rfl hk1 hFc hP1 hD1
    generalize H1 = H at hP hS ⊢
    refine lv_if_eq (tgt := 55) hx hb (qaa qmv 13 rfl) (by decide) (fun c4 => ?_) (fun c4 => ?_)
    · have hw := hw.1 c4
      exact qKl dC dI cyB cyI cyJ cyP a0 jaQ jaT a0_s ja5 jbu jbB jbG jbg jbJ jb9 jaD ja7 jby jbe jaM jaY jap jaK jal jam jax jao jae jag jaf jaw jaI jan jar jaL jah jaB jaa jaz jaH jab jaq jai jaO jaA jat jau jav jaj jas jaJ jay jac jaN jaC jbw jbD jb2 jbv jcu jbT jcy jdH Q C0 _ _ _ 0 ja9 f0_s jjo jiz jb1 jcb p1 p2 p3 p4 p5 hP hD hS (lv_sub hl [0, 1, 2, 3, 4, 5] rfl) hw
    · have hw := hw.2 c4
      refine lv_iload hx hb (qaa qmv 14 rfl) (lv_at hl 4 rfl) ?_
      refine lv_iconst (v := 0) hx hb (qaa qmv 15 rfl) (by decide) ?_
      refine lv_iconst (v := 2) hx hb (qaa qjP 0 rfl) (by decide) ?_
      obtain ⟨hCc, hPc, hDc, hFc⟩ := qac (ws' := []) hP hD hS hA [] (by decide +kernel) rfl
      refine va_calli (va_runS (As := [.int p4, .int 0, .int 2]) (rest := [.ref a0]) ⟨hx, hb, hml, hown, hts⟩ (qbG l dC dI cyB cyI cyJ cyP H.size p4 0 2 hw) (va_cwS 3 hts gX11_span_X11_within rfl rfl rfl (by decide +kernel) ⟨nbq rfl, nbq rfl⟩) ⟨qab, qae hPc hK hDc hNw⟩ rfl rfl hl.1 rfl (lv_room (nbq rfl)) (qaa qjP 1 rfl) ⟨nbq rfl, nbq rfl⟩) hS (fun q _ h => hFc q h) hFc (fun r5 u t H1 locs ht hvm hw hB hz1 hk1 hS => ?_)
      obtain ⟨hP1, hK1, hD1⟩ := hB
      rw [ht] at hP1
      obtain ⟨hP, hD⟩ := qah (wr := (qnu a0 0 jaQ jaD ja7 jby jbe jaM jaY jap jaK jal jam jax jao ja5 jb9 jbJ jae jag jaf jaN jaC jbw jaw jaI jbG jbg jbB jan jbD jbu jar jaL jah jaB jaa jaz jaH jab jaT a0_s jaq jai jaO jaA jat jau jav jaj jas jaJ jjo jiz jay jac jaQ cyI ja9 jaT cyI jb2 a0_s cyI f0_s ja5 cyI jbv jbu cyI jb1 jbB cyI jcb jbG cyI jcu jbg cyI jbT jbJ cyI jcy jb9 cyI jdH)) (w1 := []) (wn := (qnu a0 0 jaQ jaD ja7 jby jbe jaM jaY jap jaK jal jam jax jao ja5 jb9 jbJ jae jag jaf jaN jaC jbw jaw jaI jbG jbg jbB jan jbD jbu jar jaL jah jaB jaa jaz jaH jab jaT a0_s jaq jai jaO jaA jat jau jav jaj jas jaJ jjo jiz jay jac jaQ cyI ja9 jaT cyI jb2 a0_s cyI f0_s ja5 cyI jbv jbu cyI jb1 jbB cyI jcb jbG cyI jcu jbg cyI jbT jbJ cyI jcy jb9 cyI jdH)) hP hD [] [0, 1, 2, 3, 4, 5, 6, 7, 8, 9, 10] hCc rfl (by decide +kernel) (by decide +kernel) rfl hk1 hFc hP1 hD1
      generalize H1 = H at hP hS ⊢
      refine lv_if_eq (tgt := 55) hx hb (qaa qjP 2 rfl) (by decide) (fun c6 => ?_) (fun c6 => ?_)
      · have hw := hw.1 c6
        exact qKl dC dI cyB cyI cyJ cyP a0 jaQ jaT a0_s ja5 jbu jbB jbG jbg jbJ jb9 jaD ja7 jby jbe jaM jaY jap jaK jal jam jax jao jae jag jaf jaw jaI jan jar jaL jah jaB jaa jaz jaH jab jaq jai jaO jaA jat jau jav jaj jas jaJ jay jac jaN jaC jbw jbD jb2 jbv jcu jbT jcy jdH Q C0 _ _ _ 0 ja9 f0_s jjo jiz jb1 jcb p1 p2 p3 p4 p5 hP hD hS (lv_sub hl [0, 1, 2, 3, 4, 5] rfl) hw
      · have hw := hw.2 c6
        refine lv_iload hx hb (qaa qjP 3 rfl) (lv_at hl 5 rfl) ?_
        refine lv_iconst (v := 0) hx hb (qaa qjP 4 rfl) (by decide) ?_
        refine lv_aload_n hx hb (qaa qjP 5 rfl) rfl (lv_at hl 0 rfl) ?_
        refine va_get (D := (dC, dI)) (ci := 11) (v := .int jaC) (C := RX11) (T := TX11) (N := 55) hx hb hts qyD hown hK hP 0 rfl rfl 21 (by decide) (hts _ qauh) (fun _ h9 => h9) rfl (qaa qjP 6 rfl) ?_
        refine lv_iconst (v := 1) hx hb (qaa qjP 7 rfl) (by decide) ?_
        refine lv_isub hx hb (qaa qjP 8 rfl) ?_
        obtain ⟨hCc, hPc, hDc, hFc⟩ := qac (ws' := []) hP hD hS hA [] (by decide +kernel) rfl
        refine va_calli (va_runS (As := [.int p5, .int 0, .int (jaC - 1)]) (rest := [.ref a0]) ⟨hx, hb, hml, hown, hts⟩ (qbG l dC dI cyB cyI cyJ cyP H.size p5 0 (jaC - 1) hw) (va_cwS 3 hts gX11_span_X11_within rfl rfl rfl (by decide +kernel) ⟨nbq rfl, nbq rfl⟩) ⟨qab, qae hPc hK hDc hNw⟩ rfl rfl hl.1 rfl (lv_room (nbq rfl)) (qaa qjP 9 rfl) ⟨nbq rfl, nbq rfl⟩) hS (fun q _ h => hFc q h) hFc (fun r7 u t H1 locs ht hvm hw hB hz1 hk1 hS => ?_)
        obtain ⟨hP1, hK1, hD1⟩ := hB
        rw [ht] at hP1
        obtain ⟨hP, hD⟩ := qah (wr := (qnu a0 0 jaQ jaD ja7 jby jbe jaM jaY jap jaK jal jam jax jao ja5 jb9 jbJ jae jag jaf jaN jaC jbw jaw jaI jbG jbg jbB jan jbD jbu jar jaL jah jaB jaa jaz jaH jab jaT a0_s jaq jai jaO jaA jat jau jav jaj jas jaJ jjo jiz jay jac jaQ cyI ja9 jaT cyI jb2 a0_s cyI f0_s ja5 cyI jbv jbu cyI jb1 jbB cyI jcb jbG cyI jcu jbg cyI jbT jbJ cyI jcy jb9 cyI jdH)) (w1 := []) (wn := (qnu a0 0 jaQ jaD ja7 jby jbe jaM jaY jap jaK jal jam jax jao ja5 jb9 jbJ jae jag jaf jaN jaC jbw jaw jaI jbG jbg jbB jan jbD jbu jar jaL jah jaB jaa jaz jaH jab jaT a0_s jaq jai jaO jaA jat jau jav jaj jas jaJ jjo jiz jay jac jaQ cyI ja9 jaT cyI jb2 a0_s cyI f0_s ja5 cyI jbv jbu cyI jb1 jbB cyI jcb jbG cyI jcu jbg cyI jbT jbJ cyI jcy jb9 cyI jdH)) hP hD [] [0, 1, 2, 3, 4, 5, 6, 7, 8, 9, 10] hCc rfl (by decide +kernel) (by decide +kernel) rfl hk1 hFc hP1 hD1
        generalize H1 = H at hP hS ⊢
        refine lv_if_eq (tgt := 55) hx hb (qaa qjP 10 rfl) (by decide) (fun c8 => ?_) (fun c8 => ?_)
        · have hw := hw.1 c8
          exact qKl dC dI cyB cyI cyJ cyP a0 jaQ jaT a0_s ja5 jbu jbB jbG jbg jbJ jb9 jaD ja7 jby jbe jaM jaY jap jaK jal jam jax jao jae jag jaf jaw jaI jan jar jaL jah jaB jaa jaz jaH jab jaq jai jaO jaA jat jau jav jaj jas jaJ jay jac jaN jaC jbw jbD jb2 jbv jcu jbT jcy jdH Q C0 _ _ _ 0 ja9 f0_s jjo jiz jb1 jcb p1 p2 p3 p4 p5 hP hD hS (lv_sub hl [0, 1, 2, 3, 4, 5] rfl) hw
        · have hw := hw.2 c8
          refine lv_iconst (v := 1) hx hb (qaa qjP 11 rfl) (by decide) ?_
          refine lv_goto (tgt := 56) hx hb (qaa qjP 12 rfl) (by decide) ?_
          exact q70 dC dI cyB cyI cyJ cyP a0 jaQ jaT a0_s ja5 jbu jbB jbG jbg jbJ jb9 jaD ja7 jby jbe jaM jaY jap jaK jal jam jax jao jae jag jaf jaw jaI jan jar jaL jah jaB jaa jaz jaH jab jaq jai jaO jaA jat jau jav jaj jas jaJ jay jac jaN jaC jbw jbD jb2 jbv jcu jbT jcy jdH Q C0 _ _ _ 0 ja9 f0_s jjo jiz jb1 jcb p1 p2 p3 p4 p5 1 hP hD hS (lv_sub hl [0, 1, 2, 3, 4, 5] rfl) hw
theorem qVW : ∀ w ∈ u_ws RX11 TX11 55, w ∈ wsX11_status := uiM qLm qfa (by decide +kernel)
theorem qapm : (.fieldLink RX11 3 "MarchHaresModel" "thrown" "I" : Cond) ∈ wsX11_status := qLm 589 (by decide +kernel)
theorem qaqd : (.fieldLink RX11 7 "MarchHaresModel" "refused" "[I" : Cond) ∈ wsX11_status := qLm 398 (by decide +kernel)
set_option maxHeartbeats 4000000 in
set_option maxRecDepth 100000 in
theorem qaPE (l : Launch) (dC : Nat → ClassId) (dI : Nat → Nat → Nat) (cyB cyI cyJ cyP : ClassId) (a0 jaQ sz : Nat) (jaD ja7 jby jbe jaM jaY jap jaK jal jam jax jao ja6 jaV ja8 jae jag jaf ja0 ja4 jaP jaw jaI jaZ jaG jaS jan jaU jaE jar jaL jah jaB jaa jaz jaH jab ja2 z0_s jaq jai jaO jaA jat jau jav jaj jas jaJ jak jad jay jac : Value) (ja9 : NI) (jbd p1 : Int32) {Q : Int32 → Int32 → Prop} (hw : qX7 ja9 jbd p1 Q) : Met l yX11_status wsX11_status ({ frames := 1, cells := 0, slots := 0, locals := 22 }) (va_Pc [.ref a0, .int p1] (cPc (dC, dI) (kT cyB cyI cyJ cyP) (q3G a0 jbd jaQ jaD ja7 jby jbe jaM jaY jap jaK jal jam jax jao ja6 jaV ja8 jae jag jaf ja0 ja4 jaP jaw jaI jaZ jaG jaS jan jaU jaE jar jaL jah jaB jaa jaz jaH jab ja2 z0_s jaq jai jaO jaA jat jau jav jaj jas jaJ jak jad jay jac jaQ cyI ja9) sz)) (va_Qi (fun (r u : Int32) => Q r u) (cB (dC, dI) (kT cyB cyI cyJ cyP) (va_A (q3G a0 jbd jaQ jaD ja7 jby jbe jaM jaY jap jaK jal jam jax jao ja6 jaV ja8 jae jag jaf ja0 ja4 jaP jaw jaI jaZ jaG jaS jan jaU jaE jar jaL jah jaB jaa jaz jaH jab ja2 z0_s jaq jai jaO jaA jat jau jav jaj jas jaJ jak jad jay jac jaQ cyI ja9) sz) (fun u : Int32 => ((q3G a0 u jaQ jaD ja7 jby jbe jaM jaY jap jaK jal jam jax jao ja6 jaV ja8 jae jag jaf ja0 ja4 jaP jaw jaI jaZ jaG jaS jan jaU jaE jar jaL jah jaB jaa jaz jaH jab ja2 z0_s jaq jai jaO jaA jat jau jav jaj jas jaJ jak jad jay jac jaQ cyI ja9) : va_W))) (va_A (q3G a0 jbd jaQ jaD ja7 jby jbe jaM jaY jap jaK jal jam jax jao ja6 jaV ja8 jae jag jaf ja0 ja4 jaP jaw jaI jaZ jaG jaS jan jaU jaE jar jaL jah jaB jaa jaz jaH jab ja2 z0_s jaq jai jaO jaA jat jau jav jaj jas jaJ jak jad jay jac jaQ cyI ja9) sz)) 0 0 (va_A (q3G a0 jbd jaQ jaD ja7 jby jbe jaM jaY jap jaK jal jam jax jao ja6 jaV ja8 jae jag jaf ja0 ja4 jaP jaw jaI jaZ jaG jaS jan jaU jaE jar jaL jah jaB jaa jaz jaH jab ja2 z0_s jaq jai jaO jaA jat jau jav jaj jas jaJ jak jad jay jac jaQ cyI ja9) sz) := by
  refine Met.ofW (cc := cX11_status) (maxL := 2) (ret := (some .int)) (by decide) rfl ?_
  intro p e s m args below meth c s₁ B hml hv
  obtain ⟨rfl, hsz, hP, hK, hD0, hNw⟩ := hv
  have hx := B.exec
  have hb := B.bytes
  have hr := B.returns
  have hts := atoms_spec (ws := wsX11_status) B.pre
  have hown : s.vm.findClass RX11 = some m.cls := findClass_of_methodNamed B.named
  have hlocks := B.notSynchronized
  subst hsz
  have hD := hD0.self (sz := s.heap.size)
  generalize hAe : va_A (q3G a0 jbd jaQ jaD ja7 jby jbe jaM jaY jap jaK jal jam jax jao ja6 jaV ja8 jae jag jaf ja0 ja4 jaP jaw jaI jaZ jaG jaS jan jaU jaE jar jaL jah jaB jaa jaz jaH jab ja2 z0_s jaq jai jaO jaA jat jau jav jaj jas jaJ jak jad jay jac jaQ cyI ja9) s.heap.size = A at hD ⊢
  have hA : ∀ q : Nat, s.heap.size ≤ q → A q := fun q h => by rw [← hAe]; exact Or.inr h
  have hS : va_S A s.heap s.heap [] := va_S.rf
  have hP : va_P (dC, dI) vwCl (q3G a0 jbd jaQ jaD ja7 jby jbe jaM jaY jap jaK jal jam jax jao ja6 jaV ja8 jae jag jaf ja0 ja4 jaP jaw jaI jaZ jaG jaS jan jaU jaE jar jaL jah jaB jaa jaz jaH jab ja2 z0_s jaq jai jaO jaA jat jau jav jaj jas jaJ jak jad jay jac jaQ cyI ja9) s.heap := hP
  have hl := lv_entry ([.ref a0, .int p1]) (n := 2) (nbq rfl)
  rw [lg_entry_eq]
  generalize (lg_sl ([.ref a0, .int p1]) ++ List.replicate (2 - (lg_sl ([.ref a0, .int p1])).length) Slot.unset).toArray = ls at hl ⊢
  have hl : lv_has ls 2 [(0, .ref a0), (1, .int p1)] := hl
  have C0 : cfx p s m _ meth c cX11_status (some .int) wsX11_status RX11 2 A (dC, dI) (kT cyB cyI cyJ cyP) := ⟨hx, hb, hr, hts, hown, hlocks, hml, hA, hK, hNw⟩
  clear hAe
  obtain ⟨H, hH⟩ : ∃ H, H = s.heap := ⟨_, rfl⟩
  rw [← hH] at hP ⊢
  have hS : va_S A s.heap H [] := by rw [hH]; exact va_S.rf
  have hS := hS
  refine lv_aload_n hx hb (qaa qgM 0 rfl) rfl (lv_at hl 0 rfl) ?_
  refine lv_iconst (v := 0) hx hb (qaa qgM 1 rfl) (by decide) ?_
  refine va_put (D := (dC, dI)) (ci := 11) (v := .int 0) (ty := .int) (C := RX11) (T := TX11) (N := 55) hx hb hts qVW tyX11 tyX11_ok nmX11 hown hK hP hD hS 0 rfl rfl 0 (by decide) (hts _ qapm) (fun _ h9 => h9) rfl (by decide +kernel) rfl rfl (nbq rfl) (qaa qgM 2 rfl) (fun H locs hP hD hS => ?_)
  have hP : va_P (dC, dI) vwCl (q3G a0 0 jaQ jaD ja7 jby jbe jaM jaY jap jaK jal jam jax jao ja6 jaV ja8 jae jag jaf ja0 ja4 jaP jaw jaI jaZ jaG jaS jan jaU jaE jar jaL jah jaB jaa jaz jaH jab ja2 z0_s jaq jai jaO jaA jat jau jav jaj jas jaJ jak jad jay jac jaQ cyI ja9) H := hP
  have hD : va_D A (q3G a0 0 jaQ jaD ja7 jby jbe jaM jaY jap jaK jal jam jax jao ja6 jaV ja8 jae jag jaf ja0 ja4 jaP jaw jaI jaZ jaG jaS jan jaU jaE jar jaL jah jaB jaa jaz jaH jab ja2 z0_s jaq jai jaO jaA jat jau jav jaj jas jaJ jak jad jay jac jaQ cyI ja9) := hD
  refine lv_iload_n hx hb (qaa qgM 3 rfl) rfl (lv_at hl 1 rfl) ?_
  refine lv_iconst (v := 0) hx hb (qaa qgM 4 rfl) (by decide) ?_
  refine lv_iconst (v := 1) hx hb (qaa qgM 5 rfl) (by decide) ?_
  obtain ⟨hCc, hPc, hDc, hFc⟩ := qac (ws' := []) hP hD hS hA [] (by decide +kernel) rfl
  refine va_calli (va_runS (As := [.int p1, .int 0, .int 1]) (rest := []) ⟨hx, hb, hml, hown, hts⟩ (qbG l dC dI cyB cyI cyJ cyP H.size p1 0 1 hw) (va_cwS 3 hts gX11_status_X11_within rfl rfl rfl (by decide +kernel) ⟨nbq rfl, nbq rfl⟩) ⟨qab, qae hPc hK hDc hNw⟩ rfl rfl hl.1 rfl (lv_room (nbq rfl)) (qaa qgM 6 rfl) ⟨nbq rfl, nbq rfl⟩) hS (fun q _ h => hFc q h) hFc (fun r1 u t H1 locs ht hvm hw hB hz1 hk1 hS => ?_)
  obtain ⟨hP1, hK1, hD1⟩ := hB
  rw [ht] at hP1
  obtain ⟨hP, hD⟩ := qah (wr := (q3G a0 0 jaQ jaD ja7 jby jbe jaM jaY jap jaK jal jam jax jao ja6 jaV ja8 jae jag jaf ja0 ja4 jaP jaw jaI jaZ jaG jaS jan jaU jaE jar jaL jah jaB jaa jaz jaH jab ja2 z0_s jaq jai jaO jaA jat jau jav jaj jas jaJ jak jad jay jac jaQ cyI ja9)) (w1 := []) (wn := (q3G a0 0 jaQ jaD ja7 jby jbe jaM jaY jap jaK jal jam jax jao ja6 jaV ja8 jae jag jaf ja0 ja4 jaP jaw jaI jaZ jaG jaS jan jaU jaE jar jaL jah jaB jaa jaz jaH jab ja2 z0_s jaq jai jaO jaA jat jau jav jaj jas jaJ jak jad jay jac jaQ cyI ja9)) hP hD [] [0, 1] hCc rfl (by decide +kernel) (by decide +kernel) rfl hk1 hFc hP1 hD1
  generalize H1 = H at hP hS ⊢
  refine lv_if_eq (tgt := 23) hx hb (qaa qgM 7 rfl) (by decide) (fun c2 => ?_) (fun c2 => ?_)
  · have hw := hw.1 c2
    refine lv_iconst (v := (-1)) hx hb (qaa qgM 13 rfl) (by decide) ?_
    exact ((W.iret (v := (-1)) hx hb hr (fun t ht hW => ⟨⟨(-1), (0), rfl, hw, by rw [ht]; exact hP, va_K.moved hW.alike hK, hD⟩, hS.F ht⟩) hS.2.2 (qaa qgM 14 rfl)))
  · have hw := hw.2 c2
    refine lv_aload_n hx hb (qaa qgM 8 rfl) rfl (lv_at hl 0 rfl) ?_
    refine va_get (D := (dC, dI)) (ci := 11) (v := .ref jaQ) (C := RX11) (T := TX11) (N := 55) hx hb hts qVW hown hK hP 0 rfl rfl 1 (by decide) (hts _ qaqd) (fun _ h9 => h9) rfl (qaa qgM 9 rfl) ?_
    refine lv_iload_n hx hb (qaa qgM 10 rfl) rfl (lv_at hl 1 rfl) ?_
    obtain ⟨hi9, hw⟩ := hw
    refine va_iald hx hb hK hP 1 1 rfl rfl hi9 (qaa qgM 11 rfl) ?_
    refine lv_topi (fun x3 ex3 => ?_)
    have hw := hw x3 ex3
    refine lv_goto (tgt := 24) hx hb (qaa qgM 12 rfl) (by decide) ?_
    exact ((W.iret (v := x3) hx hb hr (fun t ht hW => ⟨⟨x3, (0), rfl, hw, by rw [ht]; exact hP, va_K.moved hW.alike hK, hD⟩, hS.F ht⟩) hS.2.2 (qaa qgM 14 rfl)))
theorem quX : ∀ w ∈ u_ws RX11 TX11 55, w ∈ wsX11_strongest := uiM qnV qfa (by decide +kernel)
theorem q3p : (.fieldLink RX11 169 "MarchHaresModel" "hares" "I" : Cond) ∈ wsX11_strongest := qnV 520 (by decide +kernel)
theorem q9U : (.fieldLink RX11 3 "MarchHaresModel" "thrown" "I" : Cond) ∈ wsX11_strongest := qnV 589 (by decide +kernel)
theorem qDH : (.fieldLink RX11 71 "MarchHaresModel" "s" "[I" : Cond) ∈ wsX11_strongest := qnV 457 (by decide +kernel)
set_option maxHeartbeats 4000000 in
set_option maxRecDepth 100000 in
theorem qF3 {p : Program} {l : Launch} {e : Env} {s : State} {m : MethodId} {args : Array Value} {below : List Frame} {meth : Method} {c : Code} {A : Nat → Prop} (dC : Nat → ClassId) (dI : Nat → Nat → Nat) (cyB cyI cyJ cyP : ClassId) (a0 jaQ jaT a0_s : Nat) (jaD ja7 jby jbe jaM jaY jap jaK jal jam jax jao ja6 jaV ja8 jae jag jaf ja0 jaP jaw jaI jaZ jaG jaS jan jaU jaE jar jaL jah jaB jaa jaz jaH jab jaq jai jaO jaA jat jau jav jaj jas jaJ jak jad jay jac : Value) (jaC : Int32) (jb2 : NI) (Q : Int32 → Int32 → NI → NI → Prop) (K30 : Int32 → NI → NI → Int32 → Int32 → Int32 → Prop) (hK30 : ∀ (H : Heap) (locs : List Loc) (ls : Array Slot) (jbd : Int32) (ja9 f0_s : NI) (l1 l2 l3 : Int32), va_P (dC, dI) vwCl (qqr a0 jbd jaQ jaD ja7 jby jbe jaM jaY jap jaK jal jam jax jao ja6 jaV ja8 jae jag jaf ja0 jaC jaP jaw jaI jaZ jaG jaS jan jaU jaE jar jaL jah jaB jaa jaz jaH jab jaT a0_s jaq jai jaO jaA jat jau jav jaj jas jaJ jak jad jay jac jaQ cyI ja9 jaT cyI jb2 a0_s cyI f0_s) H → va_D A (qqr a0 jbd jaQ jaD ja7 jby jbe jaM jaY jap jaK jal jam jax jao ja6 jaV ja8 jae jag jaf ja0 jaC jaP jaw jaI jaZ jaG jaS jan jaU jaE jar jaL jah jaB jaa jaz jaH jab jaT a0_s jaq jai jaO jaA jat jau jav jaj jas jaJ jak jad jay jac jaQ cyI ja9 jaT cyI jb2 a0_s cyI f0_s) → va_S A s.heap H locs → lv_has ls 4 [(0, .ref a0), (1, .int l1), (2, .int l2), (3, .int l3)] → K30 jbd ja9 f0_s l1 l2 l3 → W p l e (headSpec wsX11_strongest ({ frames := 2, cells := 0, slots := 0, locals := 44 })).room s m args below meth c H locs 0 0 (MQ below (va_Qi (fun (r : Int32) (u : Int32 × NI × NI) => Q r u.1 u.2.1 u.2.2) (cB (dC, dI) (kT cyB cyI cyJ cyP) A (fun u : Int32 × NI × NI => ((qqr a0 u.1 jaQ jaD ja7 jby jbe jaM jaY jap jaK jal jam jax jao ja6 jaV ja8 jae jag jaf ja0 jaC jaP jaw jaI jaZ jaG jaS jan jaU jaE jar jaL jah jaB jaa jaz jaH jab jaT a0_s jaq jai jaO jaA jat jau jav jaj jas jaJ jak jad jay jac jaQ cyI u.2.1 jaT cyI jb2 a0_s cyI u.2.2) : va_W))) A) args s 0 0 A) (F0 m 30 ls [])) (C0 : cfx p s m args meth c cX11_strongest (some .int) wsX11_strongest RX11 4 A (dC, dI) (kT cyB cyI cyJ cyP)) : ∀ (H : Heap) (locs : List Loc) (ls : Array Slot) (jbd : Int32) (ja9 f0_s : NI) (l1 l2 l3 : Int32), va_P (dC, dI) vwCl (qqr a0 jbd jaQ jaD ja7 jby jbe jaM jaY jap jaK jal jam jax jao ja6 jaV ja8 jae jag jaf ja0 jaC jaP jaw jaI jaZ jaG jaS jan jaU jaE jar jaL jah jaB jaa jaz jaH jab jaT a0_s jaq jai jaO jaA jat jau jav jaj jas jaJ jak jad jay jac jaQ cyI ja9 jaT cyI jb2 a0_s cyI f0_s) H → va_D A (qqr a0 jbd jaQ jaD ja7 jby jbe jaM jaY jap jaK jal jam jax jao ja6 jaV ja8 jae jag jaf ja0 jaC jaP jaw jaI jaZ jaG jaS jan jaU jaE jar jaL jah jaB jaa jaz jaH jab jaT a0_s jaq jai jaO jaA jat jau jav jaj jas jaJ jak jad jay jac jaQ cyI ja9 jaT cyI jb2 a0_s cyI f0_s) → va_S A s.heap H locs → lv_has ls 4 [(0, .ref a0), (1, .int l1), (2, .int l2), (3, .int l3)] → qzx jaC jb2 Q K30 jbd ja9 f0_s l1 l2 l3 → W p l e (headSpec wsX11_strongest ({ frames := 2, cells := 0, slots := 0, locals := 44 })).room s m args below meth c H locs 0 0 (MQ below (va_Qi (fun (r : Int32) (u : Int32 × NI × NI) => Q r u.1 u.2.1 u.2.2) (cB (dC, dI) (kT cyB cyI cyJ cyP) A (fun u : Int32 × NI × NI => ((qqr a0 u.1 jaQ jaD ja7 jby jbe jaM jaY jap jaK jal jam jax jao ja6 jaV ja8 jae jag jaf ja0 jaC jaP jaw jaI jaZ jaG jaS jan jaU jaE jar jaL jah jaB jaa jaz jaH jab jaT a0_s jaq jai jaO jaA jat jau jav jaj jas jaJ jak jad jay jac jaQ cyI u.2.1 jaT cyI jb2 a0_s cyI u.2.2) : va_W))) A) args s 0 0 A) (F0 m 74 ls []) := by
  obtain ⟨hx, hb, hr, hts, hown, hlocks, hml, hA, hK, hNw⟩ := id C0
  intro H locs ls jbd ja9 f0_s l1 l2 l3 hP hD hS hl hw
  obtain ⟨x20, ex20⟩ : ∃ y : Int32, y = l3 + 1 := ⟨_, rfl⟩
  have hw := hw x20 ex20
  refine lv_iinc (v := x20) (lv' := [(3, .int x20), (0, .ref a0), (1, .int l1), (2, .int l2)]) hx hb (qaa qcJ 14 rfl) hl (k := 3) rfl (by rw [ex20]; rfl) (by decide) rfl (fun ls hl => ?_)
  refine lv_goto (tgt := 30) hx hb (qaa qcJ 15 rfl) (by decide) ?_
  exact hK30 _ _ _ jbd ja9 f0_s l1 l2 x20 hP hD hS (lv_sub hl [1, 2, 3, 0] rfl) hw
set_option maxHeartbeats 4000000 in
set_option maxRecDepth 100000 in
theorem qQN {p : Program} {l : Launch} {e : Env} {s : State} {m : MethodId} {args : Array Value} {below : List Frame} {meth : Method} {c : Code} {A : Nat → Prop} (dC : Nat → ClassId) (dI : Nat → Nat → Nat) (cyB cyI cyJ cyP : ClassId) (a0 jaQ jaT a0_s : Nat) (jaD ja7 jby jbe jaM jaY jap jaK jal jam jax jao ja6 jaV ja8 jae jag jaf ja0 jaP jaw jaI jaZ jaG jaS jan jaU jaE jar jaL jah jaB jaa jaz jaH jab jaq jai jaO jaA jat jau jav jaj jas jaJ jak jad jay jac : Value) (jaC : Int32) (jb2 : NI) (Q : Int32 → Int32 → NI → NI → Prop) (K30 : Int32 → NI → NI → Int32 → Int32 → Int32 → Prop) (hK30 : ∀ (H : Heap) (locs : List Loc) (ls : Array Slot) (jbd : Int32) (ja9 f0_s : NI) (l1 l2 l3 : Int32), va_P (dC, dI) vwCl (qqr a0 jbd jaQ jaD ja7 jby jbe jaM jaY jap jaK jal jam jax jao ja6 jaV ja8 jae jag jaf ja0 jaC jaP jaw jaI jaZ jaG jaS jan jaU jaE jar jaL jah jaB jaa jaz jaH jab jaT a0_s jaq jai jaO jaA jat jau jav jaj jas jaJ jak jad jay jac jaQ cyI ja9 jaT cyI jb2 a0_s cyI f0_s) H → va_D A (qqr a0 jbd jaQ jaD ja7 jby jbe jaM jaY jap jaK jal jam jax jao ja6 jaV ja8 jae jag jaf ja0 jaC jaP jaw jaI jaZ jaG jaS jan jaU jaE jar jaL jah jaB jaa jaz jaH jab jaT a0_s jaq jai jaO jaA jat jau jav jaj jas jaJ jak jad jay jac jaQ cyI ja9 jaT cyI jb2 a0_s cyI f0_s) → va_S A s.heap H locs → lv_has ls 4 [(0, .ref a0), (1, .int l1), (2, .int l2), (3, .int l3)] → K30 jbd ja9 f0_s l1 l2 l3 → W p l e (headSpec wsX11_strongest ({ frames := 2, cells := 0, slots := 0, locals := 44 })).room s m args below meth c H locs 0 0 (MQ below (va_Qi (fun (r : Int32) (u : Int32 × NI × NI) => Q r u.1 u.2.1 u.2.2) (cB (dC, dI) (kT cyB cyI cyJ cyP) A (fun u : Int32 × NI × NI => ((qqr a0 u.1 jaQ jaD ja7 jby jbe jaM jaY jap jaK jal jam jax jao ja6 jaV ja8 jae jag jaf ja0 jaC jaP jaw jaI jaZ jaG jaS jan jaU jaE jar jaL jah jaB jaa jaz jaH jab jaT a0_s jaq jai jaO jaA jat jau jav jaj jas jaJ jak jad jay jac jaQ cyI u.2.1 jaT cyI jb2 a0_s cyI u.2.2) : va_W))) A) args s 0 0 A) (F0 m 30 ls [])) (C0 : cfx p s m args meth c cX11_strongest (some .int) wsX11_strongest RX11 4 A (dC, dI) (kT cyB cyI cyJ cyP)) : ∀ (H : Heap) (locs : List Loc) (ls : Array Slot) (jbd : Int32) (ja9 f0_s : NI) (l1 l3 : Int32), va_P (dC, dI) vwCl (qqr a0 jbd jaQ jaD ja7 jby jbe jaM jaY jap jaK jal jam jax jao ja6 jaV ja8 jae jag jaf ja0 jaC jaP jaw jaI jaZ jaG jaS jan jaU jaE jar jaL jah jaB jaa jaz jaH jab jaT a0_s jaq jai jaO jaA jat jau jav jaj jas jaJ jak jad jay jac jaQ cyI ja9 jaT cyI jb2 a0_s cyI f0_s) H → va_D A (qqr a0 jbd jaQ jaD ja7 jby jbe jaM jaY jap jaK jal jam jax jao ja6 jaV ja8 jae jag jaf ja0 jaC jaP jaw jaI jaZ jaG jaS jan jaU jaE jar jaL jah jaB jaa jaz jaH jab jaT a0_s jaq jai jaO jaA jat jau jav jaj jas jaJ jak jad jay jac jaQ cyI ja9 jaT cyI jb2 a0_s cyI f0_s) → va_S A s.heap H locs → lv_has ls 4 [(0, .ref a0), (1, .int l1), (3, .int l3)] → qFZ jaC jb2 Q K30 jbd ja9 f0_s l1 l3 → W p l e (headSpec wsX11_strongest ({ frames := 2, cells := 0, slots := 0, locals := 44 })).room s m args below meth c H locs 0 0 (MQ below (va_Qi (fun (r : Int32) (u : Int32 × NI × NI) => Q r u.1 u.2.1 u.2.2) (cB (dC, dI) (kT cyB cyI cyJ cyP) A (fun u : Int32 × NI × NI => ((qqr a0 u.1 jaQ jaD ja7 jby jbe jaM jaY jap jaK jal jam jax jao ja6 jaV ja8 jae jag jaf ja0 jaC jaP jaw jaI jaZ jaG jaS jan jaU jaE jar jaL jah jaB jaa jaz jaH jab jaT a0_s jaq jai jaO jaA jat jau jav jaj jas jaJ jak jad jay jac jaQ cyI u.2.1 jaT cyI jb2 a0_s cyI u.2.2) : va_W))) A) args s 0 0 A) (F0 m 72 ls []) := by
  obtain ⟨hx, hb, hr, hts, hown, hlocks, hml, hA, hK, hNw⟩ := id C0
  intro H locs ls jbd ja9 f0_s l1 l3 hP hD hS hl hw
  refine lv_iload_n hx hb (qaa qcJ 12 rfl) rfl (lv_at hl 2 rfl) ?_
  refine lv_istore_n (lv' := [(2, .int l3), (0, .ref a0), (1, .int l1), (3, .int l3)]) hx hb (qaa qcJ 13 rfl) rfl hl (by decide) rfl (fun ls hl => ?_)
  exact qF3 dC dI cyB cyI cyJ cyP a0 jaQ jaT a0_s jaD ja7 jby jbe jaM jaY jap jaK jal jam jax jao ja6 jaV ja8 jae jag jaf ja0 jaP jaw jaI jaZ jaG jaS jan jaU jaE jar jaL jah jaB jaa jaz jaH jab jaq jai jaO jaA jat jau jav jaj jas jaJ jak jad jay jac jaC jb2 Q K30 hK30 C0 _ _ _ jbd ja9 f0_s l1 l3 l3 hP hD hS (lv_sub hl [1, 2, 0, 3] rfl) hw
set_option maxHeartbeats 4000000 in
set_option maxRecDepth 100000 in
theorem qPa {p : Program} {l : Launch} {e : Env} {s : State} {m : MethodId} {args : Array Value} {below : List Frame} {meth : Method} {c : Code} {A : Nat → Prop} (dC : Nat → ClassId) (dI : Nat → Nat → Nat) (cyB cyI cyJ cyP : ClassId) (a0 jaQ jaT a0_s : Nat) (jaD ja7 jby jbe jaM jaY jap jaK jal jam jax jao ja6 jaV ja8 jae jag jaf ja0 jaP jaw jaI jaZ jaG jaS jan jaU jaE jar jaL jah jaB jaa jaz jaH jab jaq jai jaO jaA jat jau jav jaj jas jaJ jak jad jay jac : Value) (jaC : Int32) (jb2 : NI) (Q : Int32 → Int32 → NI → NI → Prop) (C0 : cfx p s m args meth c cX11_strongest (some .int) wsX11_strongest RX11 4 A (dC, dI) (kT cyB cyI cyJ cyP)) : ∀ (H : Heap) (locs : List Loc) (ls : Array Slot) (jbd : Int32) (ja9 f0_s : NI) (l2 : Int32), va_P (dC, dI) vwCl (qqr a0 jbd jaQ jaD ja7 jby jbe jaM jaY jap jaK jal jam jax jao ja6 jaV ja8 jae jag jaf ja0 jaC jaP jaw jaI jaZ jaG jaS jan jaU jaE jar jaL jah jaB jaa jaz jaH jab jaT a0_s jaq jai jaO jaA jat jau jav jaj jas jaJ jak jad jay jac jaQ cyI ja9 jaT cyI jb2 a0_s cyI f0_s) H → va_D A (qqr a0 jbd jaQ jaD ja7 jby jbe jaM jaY jap jaK jal jam jax jao ja6 jaV ja8 jae jag jaf ja0 jaC jaP jaw jaI jaZ jaG jaS jan jaU jaE jar jaL jah jaB jaa jaz jaH jab jaT a0_s jaq jai jaO jaA jat jau jav jaj jas jaJ jak jad jay jac jaQ cyI ja9 jaT cyI jb2 a0_s cyI f0_s) → va_S A s.heap H locs → lv_has ls 4 [(2, .int l2)] → qFx jaC jb2 Q jbd ja9 f0_s l2 → W p l e (headSpec wsX11_strongest ({ frames := 2, cells := 0, slots := 0, locals := 44 })).room s m args below meth c H locs 0 0 (MQ below (va_Qi (fun (r : Int32) (u : Int32 × NI × NI) => Q r u.1 u.2.1 u.2.2) (cB (dC, dI) (kT cyB cyI cyJ cyP) A (fun u : Int32 × NI × NI => ((qqr a0 u.1 jaQ jaD ja7 jby jbe jaM jaY jap jaK jal jam jax jao ja6 jaV ja8 jae jag jaf ja0 jaC jaP jaw jaI jaZ jaG jaS jan jaU jaE jar jaL jah jaB jaa jaz jaH jab jaT a0_s jaq jai jaO jaA jat jau jav jaj jas jaJ jak jad jay jac jaQ cyI u.2.1 jaT cyI jb2 a0_s cyI u.2.2) : va_W))) A) args s 0 0 A) (F0 m 89 ls []) := by
  obtain ⟨hx, hb, hr, hts, hown, hlocks, hml, hA, hK, hNw⟩ := id C0
  intro H locs ls jbd ja9 f0_s l2 hP hD hS hl hw
  refine lv_iload_n hx hb (qaa qc1 5 rfl) rfl (lv_at hl 0 rfl) ?_
  refine lv_goto (tgt := 102) hx hb (qaa qc1 6 rfl) (by decide) ?_
  exact ((W.iret (v := l2) hx hb hr (fun t ht hW => ⟨⟨l2, (jbd, ja9, f0_s), rfl, hw, by rw [ht]; exact hP, va_K.moved hW.alike hK, hD⟩, hS.F ht⟩) hS.2.2 (qaa qc1 13 rfl)))
set_option maxHeartbeats 4000000 in
set_option maxRecDepth 100000 in
theorem qaa4 {p : Program} {l : Launch} {e : Env} {s : State} {m : MethodId} {args : Array Value} {below : List Frame} {meth : Method} {c : Code} {A : Nat → Prop} (dC : Nat → ClassId) (dI : Nat → Nat → Nat) (cyB cyI cyJ cyP : ClassId) (a0 jaQ jaT a0_s : Nat) (jaD ja7 jby jbe jaM jaY jap jaK jal jam jax jao ja6 jaV ja8 jae jag jaf ja0 jaP jaw jaI jaZ jaG jaS jan jaU jaE jar jaL jah jaB jaa jaz jaH jab jaq jai jaO jaA jat jau jav jaj jas jaJ jak jad jay jac : Value) (jaC : Int32) (jb2 : NI) (Q : Int32 → Int32 → NI → NI → Prop) (C0 : cfx p s m args meth c cX11_strongest (some .int) wsX11_strongest RX11 4 A (dC, dI) (kT cyB cyI cyJ cyP)) : ∀ (n : Nat) (H : Heap) (locs : List Loc) (ls : Array Slot) (jbd : Int32) (ja9 f0_s : NI) (l1 l2 l3 : Int32), va_P (dC, dI) vwCl (qqr a0 jbd jaQ jaD ja7 jby jbe jaM jaY jap jaK jal jam jax jao ja6 jaV ja8 jae jag jaf ja0 jaC jaP jaw jaI jaZ jaG jaS jan jaU jaE jar jaL jah jaB jaa jaz jaH jab jaT a0_s jaq jai jaO jaA jat jau jav jaj jas jaJ jak jad jay jac jaQ cyI ja9 jaT cyI jb2 a0_s cyI f0_s) H → va_D A (qqr a0 jbd jaQ jaD ja7 jby jbe jaM jaY jap jaK jal jam jax jao ja6 jaV ja8 jae jag jaf ja0 jaC jaP jaw jaI jaZ jaG jaS jan jaU jaE jar jaL jah jaB jaa jaz jaH jab jaT a0_s jaq jai jaO jaA jat jau jav jaj jas jaJ jak jad jay jac jaQ cyI ja9 jaT cyI jb2 a0_s cyI f0_s) → va_S A s.heap H locs → lv_has ls 4 [(0, .ref a0), (1, .int l1), (2, .int l2), (3, .int l3)] → qip jaC jb2 Q n jbd ja9 f0_s l1 l2 l3 → W p l e (headSpec wsX11_strongest ({ frames := 2, cells := 0, slots := 0, locals := 44 })).room s m args below meth c H locs 0 0 (MQ below (va_Qi (fun (r : Int32) (u : Int32 × NI × NI) => Q r u.1 u.2.1 u.2.2) (cB (dC, dI) (kT cyB cyI cyJ cyP) A (fun u : Int32 × NI × NI => ((qqr a0 u.1 jaQ jaD ja7 jby jbe jaM jaY jap jaK jal jam jax jao ja6 jaV ja8 jae jag jaf ja0 jaC jaP jaw jaI jaZ jaG jaS jan jaU jaE jar jaL jah jaB jaa jaz jaH jab jaT a0_s jaq jai jaO jaA jat jau jav jaj jas jaJ jak jad jay jac jaQ cyI u.2.1 jaT cyI jb2 a0_s cyI u.2.2) : va_W))) A) args s 0 0 A) (F0 m 30 ls []) := by
  obtain ⟨hx, hb, hr, hts, hown, hlocks, hml, hA, hK, hNw⟩ := id C0
  intro n
  induction n with
  | zero => intro H locs ls jbd ja9 f0_s l1 l2 l3 hP hD hS hl hw; exact False.elim hw
  | succ n ih =>
    intro H locs ls jbd ja9 f0_s l1 l2 l3 hP hD hS hl hw
    refine lv_iload_n hx hb (qaa qcR 4 rfl) rfl (lv_at hl 3 rfl) ?_
    refine lv_aload_n hx hb (qaa qcR 5 rfl) rfl (lv_at hl 0 rfl) ?_
    refine va_get (D := (dC, dI)) (ci := 11) (v := .int jaC) (C := RX11) (T := TX11) (N := 55) hx hb hts quX hown hK hP 0 rfl rfl 21 (by decide) (hts _ q3p) (fun _ h9 => h9) rfl (qaa qcR 6 rfl) ?_
    refine lv_icmp_ge (tgt := 80) hx hb (qaa qcR 7 rfl) (by decide) (fun c7 => ?_) (fun c7 => ?_)
    · have hw := hw.1 c7
      refine lv_iload_n hx hb (qaa qc1 0 rfl) rfl (lv_at hl 1 rfl) ?_
      refine lv_if_eq (tgt := 89) hx hb (qaa qc1 1 rfl) (by decide) (fun c8 => ?_) (fun c8 => ?_)
      · have hw := hw.1 c8
        exact qPa dC dI cyB cyI cyJ cyP a0 jaQ jaT a0_s jaD ja7 jby jbe jaM jaY jap jaK jal jam jax jao ja6 jaV ja8 jae jag jaf ja0 jaP jaw jaI jaZ jaG jaS jan jaU jaE jar jaL jah jaB jaa jaz jaH jab jaq jai jaO jaA jat jau jav jaj jas jaJ jak jad jay jac jaC jb2 Q C0 _ _ _ jbd ja9 f0_s l2 hP hD hS (lv_sub hl [2] rfl) hw
      · have hw := hw.2 c8
        refine lv_iload_n hx hb (qaa qc1 2 rfl) rfl (lv_at hl 2 rfl) ?_
        refine lv_iconst (v := (-1)) hx hb (qaa qc1 3 rfl) (by decide) ?_
        refine lv_icmp_ne (tgt := 93) hx hb (qaa qc1 4 rfl) (by decide) (fun c9 => ?_) (fun c9 => ?_)
        · have hw := hw.1 c9
          refine lv_aload_n hx hb (qaa qc1 7 rfl) rfl (lv_at hl 0 rfl) ?_
          refine va_get (D := (dC, dI)) (ci := 11) (v := .ref a0_s) (C := RX11) (T := TX11) (N := 55) hx hb hts quX hown hK hP 0 rfl rfl 40 (by decide) (hts _ qDH) (fun _ h9 => h9) rfl (qaa qc1 8 rfl) ?_
          refine lv_bipush (v := 6) hx hb (qaa qc1 9 rfl) (by decide) ?_
          refine lv_iload_n hx hb (qaa qc1 10 rfl) rfl (lv_at hl 2 rfl) ?_
          refine lv_iadd hx hb (qaa qc1 11 rfl) ?_
          refine lv_topi (fun x10 ex10 => ?_)
          have hw := hw x10 ex10
          obtain ⟨hi9, hw⟩ := hw
          refine va_iald hx hb hK hP 3 1 rfl rfl hi9 (qaa qc1 12 rfl) ?_
          refine lv_topi (fun x11 ex11 => ?_)
          have hw := hw x11 ex11
          exact ((W.iret (v := x11) hx hb hr (fun t ht hW => ⟨⟨x11, (jbd, ja9, f0_s), rfl, hw, by rw [ht]; exact hP, va_K.moved hW.alike hK, hD⟩, hS.F ht⟩) hS.2.2 (qaa qc1 13 rfl)))
        · have hw := hw.2 c9
          exact qPa dC dI cyB cyI cyJ cyP a0 jaQ jaT a0_s jaD ja7 jby jbe jaM jaY jap jaK jal jam jax jao ja6 jaV ja8 jae jag jaf ja0 jaP jaw jaI jaZ jaG jaS jan jaU jaE jar jaL jah jaB jaa jaz jaH jab jaq jai jaO jaA jat jau jav jaj jas jaJ jak jad jay jac jaC jb2 Q C0 _ _ _ jbd ja9 f0_s l2 hP hD hS (lv_sub hl [2] rfl) hw
    · have hw := hw.2 c7
      refine lv_aload_n hx hb (qaa qcR 8 rfl) rfl (lv_at hl 0 rfl) ?_
      refine lv_iload_n hx hb (qaa qcR 9 rfl) rfl (lv_at hl 3 rfl) ?_
      obtain ⟨hCc, hPc, hDc, hFc⟩ := qac (ws' := (qa78 a0 jbd jaQ jaD ja7 jby jbe jaM jaY jap jaK jal jam jax jao ja6 jaV ja8 jae jag jaf ja0 jaC jaP jaw jaI jaZ jaG jaS jan jaU jaE jar jaL jah jaB jaa jaz jaH jab jaT a0_s jaq jai jaO jaA jat jau jav jaj jas jaJ jak jad jay jac a0_s cyI f0_s)) hP hD hS hA [0, 3] (by decide +kernel) rfl
      refine va_calli (va_runV (As := [.int l3]) (rest := []) ⟨hx, hb, hml, hown, hts⟩ (qim l dC dI cyB cyI cyJ cyP a0 a0_s H.size (.int jbd) (.ref jaQ) (jaD) (ja7) (jby) (jbe) (jaM) (jaY) (jap) (jaK) (jal) (jam) (jax) (jao) (ja6) (jaV) (ja8) (jae) (jag) (jaf) (ja0) (.int jaC) (jaP) (jaw) (jaI) (jaZ) (jaG) (jaS) (jan) (jaU) (jaE) (jar) (jaL) (jah) (jaB) (jaa) (jaz) (jaH) (jab) (.ref jaT) (jaq) (jai) (jaO) (jaA) (jat) (jau) (jav) (jaj) (jas) (jaJ) (jak) (jad) (jay) (jac) f0_s l3 hw) (cwV 1 hts gX11_strongest_X11_isCaught rfl rfl rfl (by decide +kernel) ⟨nbq rfl, nbq rfl⟩) ⟨qab, va_recv (q := (RX11, TX11, 55)) hK hPc (ci := 11) (q0 := 0) rfl rfl, qae hPc hK hDc hNw⟩ rfl rfl hl.1 rfl (lv_room (nbq rfl)) (qaa qcR 10 rfl) ⟨nbq rfl, nbq rfl⟩) hS (fun q _ h => hFc q h) hFc (fun r12 u t H1 locs ht hvm hw hB hz1 hk1 hS => ?_)
      obtain ⟨hP1, hK1, hD1⟩ := hB
      rw [ht] at hP1
      obtain ⟨hP, hD⟩ := qad (wr := (qa8N jaQ cyI ja9 jaT cyI jb2)) (w1 := (qa78 a0 jbd jaQ jaD ja7 jby jbe jaM jaY jap jaK jal jam jax jao ja6 jaV ja8 jae jag jaf ja0 jaC jaP jaw jaI jaZ jaG jaS jan jaU jaE jar jaL jah jaB jaa jaz jaH jab jaT a0_s jaq jai jaO jaA jat jau jav jaj jas jaJ jak jad jay jac a0_s cyI f0_s)) (wn := (qqr a0 jbd jaQ jaD ja7 jby jbe jaM jaY jap jaK jal jam jax jao ja6 jaV ja8 jae jag jaf ja0 jaC jaP jaw jaI jaZ jaG jaS jan jaU jaE jar jaL jah jaB jaa jaz jaH jab jaT a0_s jaq jai jaO jaA jat jau jav jaj jas jaJ jak jad jay jac jaQ cyI ja9 jaT cyI jb2 a0_s cyI f0_s)) hP hD [0, 3] [1, 2] [2, 0, 1, 3] hCc rfl (by decide +kernel) (by decide +kernel) (by decide +kernel) rfl hk1 hFc hP1 hD1
      generalize H1 = H at hP hS ⊢
      refine lv_if_ne (tgt := 74) hx hb (qaa qcR 11 rfl) (by decide) (fun c13 => ?_) (fun c13 => ?_)
      · have hw := hw.1 c13
        exact qF3 dC dI cyB cyI cyJ cyP a0 jaQ jaT a0_s jaD ja7 jby jbe jaM jaY jap jaK jal jam jax jao ja6 jaV ja8 jae jag jaf ja0 jaP jaw jaI jaZ jaG jaS jan jaU jaE jar jaL jah jaB jaa jaz jaH jab jaq jai jaO jaA jat jau jav jaj jas jaJ jak jad jay jac jaC jb2 Q (qip jaC jb2 Q n) ih C0 _ _ _ jbd ja9 f0_s l1 l2 l3 hP hD hS (lv_sub hl [0, 1, 2, 3] rfl) hw
      · have hw := hw.2 c13
        refine lv_iload_n hx hb (qaa qcR 12 rfl) rfl (lv_at hl 2 rfl) ?_
        refine lv_iconst (v := (-1)) hx hb (qaa qcR 13 rfl) (by decide) ?_
        refine lv_icmp_eq (tgt := 72) hx hb (qaa qcR 14 rfl) (by decide) (fun c14 => ?_) (fun c14 => ?_)
        · have hw := hw.1 c14
          exact qQN dC dI cyB cyI cyJ cyP a0 jaQ jaT a0_s jaD ja7 jby jbe jaM jaY jap jaK jal jam jax jao ja6 jaV ja8 jae jag jaf ja0 jaP jaw jaI jaZ jaG jaS jan jaU jaE jar jaL jah jaB jaa jaz jaH jab jaq jai jaO jaA jat jau jav jaj jas jaJ jak jad jay jac jaC jb2 Q (qip jaC jb2 Q n) ih C0 _ _ _ jbd ja9 f0_s l1 l3 hP hD hS (lv_sub hl [0, 1, 3] rfl) hw
        · have hw := hw.2 c14
          refine lv_aload_n hx hb (qaa qcR 15 rfl) rfl (lv_at hl 0 rfl) ?_
          refine va_get (D := (dC, dI)) (ci := 11) (v := .ref a0_s) (C := RX11) (T := TX11) (N := 55) hx hb hts quX hown hK hP 0 rfl rfl 40 (by decide) (hts _ qDH) (fun _ h9 => h9) rfl (qaa qcJ 0 rfl) ?_
          refine lv_bipush (v := 6) hx hb (qaa qcJ 1 rfl) (by decide) ?_
          refine lv_iload_n hx hb (qaa qcJ 2 rfl) rfl (lv_at hl 3 rfl) ?_
          refine lv_iadd hx hb (qaa qcJ 3 rfl) ?_
          refine lv_topi (fun x15 ex15 => ?_)
          have hw := hw x15 ex15
          obtain ⟨hi9, hw⟩ := hw
          refine va_iald hx hb hK hP 3 1 rfl rfl hi9 (qaa qcJ 4 rfl) ?_
          refine lv_topi (fun x16 ex16 => ?_)
          have hw := hw x16 ex16
          refine lv_aload_n hx hb (qaa qcJ 5 rfl) rfl (lv_at hl 0 rfl) ?_
          refine va_get (D := (dC, dI)) (ci := 11) (v := .ref a0_s) (C := RX11) (T := TX11) (N := 55) hx hb hts quX hown hK hP 0 rfl rfl 40 (by decide) (hts _ qDH) (fun _ h9 => h9) rfl (qaa qcJ 6 rfl) ?_
          refine lv_bipush (v := 6) hx hb (qaa qcJ 7 rfl) (by decide) ?_
          refine lv_iload_n hx hb (qaa qcJ 8 rfl) rfl (lv_at hl 2 rfl) ?_
          refine lv_iadd hx hb (qaa qcJ 9 rfl) ?_
          refine lv_topi (fun x17 ex17 => ?_)
          have hw := hw x17 ex17
          obtain ⟨hi9, hw⟩ := hw
          refine va_iald hx hb hK hP 3 1 rfl rfl hi9 (qaa qcJ 10 rfl) ?_
          refine lv_topi (fun x18 ex18 => ?_)
          have hw := hw x18 ex18
          refine lv_icmp_le (tgt := 74) hx hb (qaa qcJ 11 rfl) (by decide) (fun c19 => ?_) (fun c19 => ?_)
          · have hw := hw.1 c19
            exact qF3 dC dI cyB cyI cyJ cyP a0 jaQ jaT a0_s jaD ja7 jby jbe jaM jaY jap jaK jal jam jax jao ja6 jaV ja8 jae jag jaf ja0 jaP jaw jaI jaZ jaG jaS jan jaU jaE jar jaL jah jaB jaa jaz jaH jab jaq jai jaO jaA jat jau jav jaj jas jaJ jak jad jay jac jaC jb2 Q (qip jaC jb2 Q n) ih C0 _ _ _ jbd ja9 f0_s l1 l2 l3 hP hD hS (lv_sub hl [0, 1, 2, 3] rfl) hw
          · have hw := hw.2 c19
            exact qQN dC dI cyB cyI cyJ cyP a0 jaQ jaT a0_s jaD ja7 jby jbe jaM jaY jap jaK jal jam jax jao ja6 jaV ja8 jae jag jaf ja0 jaP jaw jaI jaZ jaG jaS jan jaU jaE jar jaL jah jaB jaa jaz jaH jab jaq jai jaO jaA jat jau jav jaj jas jaJ jak jad jay jac jaC jb2 Q (qip jaC jb2 Q n) ih C0 _ _ _ jbd ja9 f0_s l1 l3 hP hD hS (lv_sub hl [0, 1, 3] rfl) hw
set_option maxHeartbeats 4000000 in
set_option maxRecDepth 100000 in
theorem qatM (l : Launch) (dC : Nat → ClassId) (dI : Nat → Nat → Nat) (cyB cyI cyJ cyP : ClassId) (a0 jaQ jaT a0_s sz : Nat) (jaD ja7 jby jbe jaM jaY jap jaK jal jam jax jao ja6 jaV ja8 jae jag jaf ja0 jaP jaw jaI jaZ jaG jaS jan jaU jaE jar jaL jah jaB jaa jaz jaH jab jaq jai jaO jaA jat jau jav jaj jas jaJ jak jad jay jac : Value) (jaC : Int32) (jb2 : NI) (jbd : Int32) (ja9 f0_s : NI) (p1 : Int32) {Q : Int32 → Int32 → NI → NI → Prop} (hw : qMZ jaC jb2 jbd ja9 f0_s p1 Q) : Met l yX11_strongest wsX11_strongest ({ frames := 2, cells := 0, slots := 0, locals := 44 }) (va_Pc [.ref a0, .int p1] (cPc (dC, dI) (kT cyB cyI cyJ cyP) (qqr a0 jbd jaQ jaD ja7 jby jbe jaM jaY jap jaK jal jam jax jao ja6 jaV ja8 jae jag jaf ja0 jaC jaP jaw jaI jaZ jaG jaS jan jaU jaE jar jaL jah jaB jaa jaz jaH jab jaT a0_s jaq jai jaO jaA jat jau jav jaj jas jaJ jak jad jay jac jaQ cyI ja9 jaT cyI jb2 a0_s cyI f0_s) sz)) (va_Qi (fun (r : Int32) (u : Int32 × NI × NI) => Q r u.1 u.2.1 u.2.2) (cB (dC, dI) (kT cyB cyI cyJ cyP) (va_A (qqr a0 jbd jaQ jaD ja7 jby jbe jaM jaY jap jaK jal jam jax jao ja6 jaV ja8 jae jag jaf ja0 jaC jaP jaw jaI jaZ jaG jaS jan jaU jaE jar jaL jah jaB jaa jaz jaH jab jaT a0_s jaq jai jaO jaA jat jau jav jaj jas jaJ jak jad jay jac jaQ cyI ja9 jaT cyI jb2 a0_s cyI f0_s) sz) (fun u : Int32 × NI × NI => ((qqr a0 u.1 jaQ jaD ja7 jby jbe jaM jaY jap jaK jal jam jax jao ja6 jaV ja8 jae jag jaf ja0 jaC jaP jaw jaI jaZ jaG jaS jan jaU jaE jar jaL jah jaB jaa jaz jaH jab jaT a0_s jaq jai jaO jaA jat jau jav jaj jas jaJ jak jad jay jac jaQ cyI u.2.1 jaT cyI jb2 a0_s cyI u.2.2) : va_W))) (va_A (qqr a0 jbd jaQ jaD ja7 jby jbe jaM jaY jap jaK jal jam jax jao ja6 jaV ja8 jae jag jaf ja0 jaC jaP jaw jaI jaZ jaG jaS jan jaU jaE jar jaL jah jaB jaa jaz jaH jab jaT a0_s jaq jai jaO jaA jat jau jav jaj jas jaJ jak jad jay jac jaQ cyI ja9 jaT cyI jb2 a0_s cyI f0_s) sz)) 0 0 (va_A (qqr a0 jbd jaQ jaD ja7 jby jbe jaM jaY jap jaK jal jam jax jao ja6 jaV ja8 jae jag jaf ja0 jaC jaP jaw jaI jaZ jaG jaS jan jaU jaE jar jaL jah jaB jaa jaz jaH jab jaT a0_s jaq jai jaO jaA jat jau jav jaj jas jaJ jak jad jay jac jaQ cyI ja9 jaT cyI jb2 a0_s cyI f0_s) sz) := by
  refine Met.ofW (cc := cX11_strongest) (maxL := 4) (ret := (some .int)) (by decide) rfl ?_
  intro p e s m args below meth c s₁ B hml hv
  obtain ⟨rfl, hsz, hP, hK, hD0, hNw⟩ := hv
  have hx := B.exec
  have hb := B.bytes
  have hr := B.returns
  have hts := atoms_spec (ws := wsX11_strongest) B.pre
  have hown : s.vm.findClass RX11 = some m.cls := findClass_of_methodNamed B.named
  have hlocks := B.notSynchronized
  subst hsz
  have hD := hD0.self (sz := s.heap.size)
  generalize hAe : va_A (qqr a0 jbd jaQ jaD ja7 jby jbe jaM jaY jap jaK jal jam jax jao ja6 jaV ja8 jae jag jaf ja0 jaC jaP jaw jaI jaZ jaG jaS jan jaU jaE jar jaL jah jaB jaa jaz jaH jab jaT a0_s jaq jai jaO jaA jat jau jav jaj jas jaJ jak jad jay jac jaQ cyI ja9 jaT cyI jb2 a0_s cyI f0_s) s.heap.size = A at hD ⊢
  have hA : ∀ q : Nat, s.heap.size ≤ q → A q := fun q h => by rw [← hAe]; exact Or.inr h
  have hS : va_S A s.heap s.heap [] := va_S.rf
  have hP : va_P (dC, dI) vwCl (qqr a0 jbd jaQ jaD ja7 jby jbe jaM jaY jap jaK jal jam jax jao ja6 jaV ja8 jae jag jaf ja0 jaC jaP jaw jaI jaZ jaG jaS jan jaU jaE jar jaL jah jaB jaa jaz jaH jab jaT a0_s jaq jai jaO jaA jat jau jav jaj jas jaJ jak jad jay jac jaQ cyI ja9 jaT cyI jb2 a0_s cyI f0_s) s.heap := hP
  have hl := lv_entry ([.ref a0, .int p1]) (n := 4) (nbq rfl)
  rw [lg_entry_eq]
  generalize (lg_sl ([.ref a0, .int p1]) ++ List.replicate (4 - (lg_sl ([.ref a0, .int p1])).length) Slot.unset).toArray = ls at hl ⊢
  have hl : lv_has ls 4 [(0, .ref a0), (1, .int p1)] := hl
  have C0 : cfx p s m _ meth c cX11_strongest (some .int) wsX11_strongest RX11 4 A (dC, dI) (kT cyB cyI cyJ cyP) := ⟨hx, hb, hr, hts, hown, hlocks, hml, hA, hK, hNw⟩
  clear hAe
  obtain ⟨H, hH⟩ : ∃ H, H = s.heap := ⟨_, rfl⟩
  rw [← hH] at hP ⊢
  have hS : va_S A s.heap H [] := by rw [hH]; exact va_S.rf
  have hS := hS
  refine lv_aload_n hx hb (qaa qdB 0 rfl) rfl (lv_at hl 0 rfl) ?_
  refine lv_iconst (v := 0) hx hb (qaa qdB 1 rfl) (by decide) ?_
  refine va_put (D := (dC, dI)) (ci := 11) (v := .int 0) (ty := .int) (C := RX11) (T := TX11) (N := 55) hx hb hts quX tyX11 tyX11_ok nmX11 hown hK hP hD hS 0 rfl rfl 0 (by decide) (hts _ q9U) (fun _ h9 => h9) rfl (by decide +kernel) rfl rfl (nbq rfl) (qaa qdB 2 rfl) (fun H locs hP hD hS => ?_)
  have hP : va_P (dC, dI) vwCl (qqr a0 0 jaQ jaD ja7 jby jbe jaM jaY jap jaK jal jam jax jao ja6 jaV ja8 jae jag jaf ja0 jaC jaP jaw jaI jaZ jaG jaS jan jaU jaE jar jaL jah jaB jaa jaz jaH jab jaT a0_s jaq jai jaO jaA jat jau jav jaj jas jaJ jak jad jay jac jaQ cyI ja9 jaT cyI jb2 a0_s cyI f0_s) H := hP
  have hD : va_D A (qqr a0 0 jaQ jaD ja7 jby jbe jaM jaY jap jaK jal jam jax jao ja6 jaV ja8 jae jag jaf ja0 jaC jaP jaw jaI jaZ jaG jaS jan jaU jaE jar jaL jah jaB jaa jaz jaH jab jaT a0_s jaq jai jaO jaA jat jau jav jaj jas jaJ jak jad jay jac jaQ cyI ja9 jaT cyI jb2 a0_s cyI f0_s) := hD
  refine lv_aload_n hx hb (qaa qdB 3 rfl) rfl (lv_at hl 0 rfl) ?_
  refine lv_iload_n hx hb (qaa qdB 4 rfl) rfl (lv_at hl 1 rfl) ?_
  refine lv_iconst (v := 0) hx hb (qaa qdB 5 rfl) (by decide) ?_
  refine lv_iconst (v := 1) hx hb (qaa qdB 6 rfl) (by decide) ?_
  obtain ⟨hCc, hPc, hDc, hFc⟩ := qac (ws' := []) hP hD hS hA [] (by decide +kernel) rfl
  refine va_calli (va_runS (As := [.int p1, .int 0, .int 1]) (rest := [.ref a0]) ⟨hx, hb, hml, hown, hts⟩ (qbG l dC dI cyB cyI cyJ cyP H.size p1 0 1 hw) (va_cwS 3 hts gX11_strongest_X11_within rfl rfl rfl (by decide +kernel) ⟨nbq rfl, nbq rfl⟩) ⟨qab, qae hPc hK hDc hNw⟩ rfl rfl hl.1 rfl (lv_room (nbq rfl)) (qaa qdB 7 rfl) ⟨nbq rfl, nbq rfl⟩) hS (fun q _ h => hFc q h) hFc (fun r1 u t H1 locs ht hvm hw hB hz1 hk1 hS => ?_)
  obtain ⟨hP1, hK1, hD1⟩ := hB
  rw [ht] at hP1
  obtain ⟨hP, hD⟩ := qah (wr := (qqr a0 0 jaQ jaD ja7 jby jbe jaM jaY jap jaK jal jam jax jao ja6 jaV ja8 jae jag jaf ja0 jaC jaP jaw jaI jaZ jaG jaS jan jaU jaE jar jaL jah jaB jaa jaz jaH jab jaT a0_s jaq jai jaO jaA jat jau jav jaj jas jaJ jak jad jay jac jaQ cyI ja9 jaT cyI jb2 a0_s cyI f0_s)) (w1 := []) (wn := (qqr a0 0 jaQ jaD ja7 jby jbe jaM jaY jap jaK jal jam jax jao ja6 jaV ja8 jae jag jaf ja0 jaC jaP jaw jaI jaZ jaG jaS jan jaU jaE jar jaL jah jaB jaa jaz jaH jab jaT a0_s jaq jai jaO jaA jat jau jav jaj jas jaJ jak jad jay jac jaQ cyI ja9 jaT cyI jb2 a0_s cyI f0_s)) hP hD [] [0, 1, 2, 3] hCc rfl (by decide +kernel) (by decide +kernel) rfl hk1 hFc hP1 hD1
  generalize H1 = H at hP hS ⊢
  refine lv_iconst (v := 1) hx hb (qaa qdB 8 rfl) (by decide) ?_
  refine lv_iconst (v := 1) hx hb (qaa qdB 9 rfl) (by decide) ?_
  obtain ⟨hCc, hPc, hDc, hFc⟩ := qac (ws' := (qa6L a0 0 jaQ jaD ja7 jby jbe jaM jaY jap jaK jal jam jax jao ja6 jaV ja8 jae jag jaf ja0 jaC jaP jaw jaI jaZ jaG jaS jan jaU jaE jar jaL jah jaB jaa jaz jaH jab jaT a0_s jaq jai jaO jaA jat jau jav jaj jas jaJ jak jad jay jac jaQ cyI ja9)) hP hD hS hA [0, 1] (by decide +kernel) rfl
  refine va_calli (va_runV (As := [.int r1, .int 1, .int 1]) (rest := []) ⟨hx, hb, hml, hown, hts⟩ (qkE l dC dI cyB cyI cyJ cyP a0 jaQ H.size (jaD) (ja7) (jby) (jbe) (jaM) (jaY) (jap) (jaK) (jal) (jam) (jax) (jao) (ja6) (jaV) (ja8) (jae) (jag) (jaf) (ja0) (.int jaC) (jaP) (jaw) (jaI) (jaZ) (jaG) (jaS) (jan) (jaU) (jaE) (jar) (jaL) (jah) (jaB) (jaa) (jaz) (jaH) (jab) (.ref jaT) (.ref a0_s) (jaq) (jai) (jaO) (jaA) (jat) (jau) (jav) (jaj) (jas) (jaJ) (jak) (jad) (jay) (jac) 0 ja9 r1 1 1 hw) (cwV 3 hts gX11_strongest_X11_may rfl rfl rfl (by decide +kernel) ⟨nbq rfl, nbq rfl⟩) ⟨qab, va_recv (q := (RX11, TX11, 55)) hK hPc (ci := 11) (q0 := 0) rfl rfl, qae hPc hK hDc hNw⟩ rfl rfl hl.1 rfl (lv_room (nbq rfl)) (qaa qdB 10 rfl) ⟨nbq rfl, nbq rfl⟩) hS (fun q _ h => hFc q h) hFc (fun r4 u t H1 locs ht hvm hw hB hz1 hk1 hS => ?_)
  obtain ⟨x2, f3⟩ := u
  obtain ⟨hP1, hK1, hD1⟩ := hB
  rw [ht] at hP1
  obtain ⟨hP, hD⟩ := qad (wr := [(jaT, .inl (cyI, 68, .inl jb2)), (a0_s, .inl (cyI, 68, .inl f0_s))]) (w1 := (qa6L a0 x2 jaQ jaD ja7 jby jbe jaM jaY jap jaK jal jam jax jao ja6 jaV ja8 jae jag jaf ja0 jaC jaP jaw jaI jaZ jaG jaS jan jaU jaE jar jaL jah jaB jaa jaz jaH jab jaT a0_s jaq jai jaO jaA jat jau jav jaj jas jaJ jak jad jay jac jaQ cyI f3)) (wn := (qqr a0 x2 jaQ jaD ja7 jby jbe jaM jaY jap jaK jal jam jax jao ja6 jaV ja8 jae jag jaf ja0 jaC jaP jaw jaI jaZ jaG jaS jan jaU jaE jar jaL jah jaB jaa jaz jaH jab jaT a0_s jaq jai jaO jaA jat jau jav jaj jas jaJ jak jad jay jac jaQ cyI f3 jaT cyI jb2 a0_s cyI f0_s)) hP hD [0, 1] [2, 3] [2, 3, 0, 1] hCc rfl (by decide +kernel) (by decide +kernel) (by decide +kernel) rfl hk1 hFc hP1 hD1
  generalize H1 = H at hP hS ⊢
  refine lv_if_ne (tgt := 22) hx hb (qaa qdB 11 rfl) (by decide) (fun c5 => ?_) (fun c5 => ?_)
  · have hw := hw.1 c5
    refine lv_aload_n hx hb (qaa qdB 14 rfl) rfl (lv_at hl 0 rfl) ?_
    obtain ⟨hCc, hPc, hDc, hFc⟩ := qac (ws' := (qa83 a0 x2 jaQ jaD ja7 jby jbe jaM jaY jap jaK jal jam jax jao ja6 jaV ja8 jae jag jaf ja0 jaC jaP jaw jaI jaZ jaG jaS jan jaU jaE jar jaL jah jaB jaa jaz jaH jab jaT a0_s jaq jai jaO jaA jat jau jav jaj jas jaJ jak jad jay jac jaT cyI jb2 a0_s cyI f0_s)) hP hD hS hA [0, 2, 3] (by decide +kernel) rfl
    refine va_callv (va_runV (As := []) (rest := []) ⟨hx, hb, hml, hown, hts⟩ (qq7 l dC dI cyB cyI cyJ cyP a0 jaT a0_s H.size (.int x2) (.ref jaQ) (jaD) (ja7) (jby) (jbe) (jaM) (jaY) (jap) (jaK) (jal) (jam) (jax) (jao) (ja6) (jaV) (ja8) (jae) (jag) (jaf) (ja0) (.int jaC) (jaP) (jaw) (jaI) (jaZ) (jaG) (jaS) (jan) (jaU) (jaE) (jar) (jaL) (jah) (jaB) (jaa) (jaz) (jaH) (jab) (jaq) (jai) (jaO) (jaA) (jat) (jau) (jav) (jaj) (jas) (jaJ) (jak) (jad) (jay) (jac) jb2 f0_s hw) (cwV 0 hts gX11_strongest_X11_take rfl rfl rfl (by decide +kernel) ⟨nbq rfl, nbq rfl⟩) ⟨qab, va_recv (q := (RX11, TX11, 55)) hK hPc (ci := 11) (q0 := 0) rfl rfl, qae hPc hK hDc hNw⟩ rfl rfl hl.1 rfl (lv_room (nbq rfl)) (qaa qdB 15 rfl) ⟨nbq rfl, nbq rfl⟩) hS (fun q _ h => hFc q h) hFc (fun u t H1 locs ht hvm hw hB hz1 hk1 hS => ?_)
    obtain ⟨f6, rfl⟩ : ∃ z, z = u := ⟨_, rfl⟩
    obtain ⟨hP1, hK1, hD1⟩ := hB
    rw [ht] at hP1
    obtain ⟨hP, hD⟩ := qad (wr := [(jaQ, .inl (cyI, 2, .inl f3))]) (w1 := (qa83 a0 x2 jaQ jaD ja7 jby jbe jaM jaY jap jaK jal jam jax jao ja6 jaV ja8 jae jag jaf ja0 jaC jaP jaw jaI jaZ jaG jaS jan jaU jaE jar jaL jah jaB jaa jaz jaH jab jaT a0_s jaq jai jaO jaA jat jau jav jaj jas jaJ jak jad jay jac jaT cyI jb2 a0_s cyI f6)) (wn := (qqr a0 x2 jaQ jaD ja7 jby jbe jaM jaY jap jaK jal jam jax jao ja6 jaV ja8 jae jag jaf ja0 jaC jaP jaw jaI jaZ jaG jaS jan jaU jaE jar jaL jah jaB jaa jaz jaH jab jaT a0_s jaq jai jaO jaA jat jau jav jaj jas jaJ jak jad jay jac jaQ cyI f3 jaT cyI jb2 a0_s cyI f6)) hP hD [0, 2, 3] [1] [1, 0, 2, 3] hCc rfl (by decide +kernel) (by decide +kernel) (by decide +kernel) rfl hk1 hFc hP1 hD1
    generalize H1 = H at hP hS ⊢
    refine lv_iconst (v := (-1)) hx hb (qaa qcR 0 rfl) (by decide) ?_
    refine lv_istore_n (lv' := [(2, .int (-1)), (0, .ref a0), (1, .int p1)]) hx hb (qaa qcR 1 rfl) rfl hl (by decide) rfl (fun ls hl => ?_)
    refine lv_iconst (v := 0) hx hb (qaa qcR 2 rfl) (by decide) ?_
    refine lv_istore_n (lv' := [(3, .int 0), (2, .int (-1)), (0, .ref a0), (1, .int p1)]) hx hb (qaa qcR 3 rfl) rfl hl (by decide) rfl (fun ls hl => ?_)
    obtain ⟨n9, hw⟩ := hw
    exact qaa4 dC dI cyB cyI cyJ cyP a0 jaQ jaT a0_s jaD ja7 jby jbe jaM jaY jap jaK jal jam jax jao ja6 jaV ja8 jae jag jaf ja0 jaP jaw jaI jaZ jaG jaS jan jaU jaE jar jaL jah jaB jaa jaz jaH jab jaq jai jaO jaA jat jau jav jaj jas jaJ jak jad jay jac jaC jb2 Q C0 n9 _ _ _ x2 f3 f6 p1 (-1) 0 hP hD hS (lv_sub hl [2, 3, 1, 0] rfl) hw
  · have hw := hw.2 c5
    refine lv_iconst (v := 0) hx hb (qaa qdB 12 rfl) (by decide) ?_
    exact ((W.iret (v := 0) hx hb hr (fun t ht hW => ⟨⟨0, (x2, f3, f0_s), rfl, hw, by rw [ht]; exact hP, va_K.moved hW.alike hK, hD⟩, hS.F ht⟩) hS.2.2 (qaa qdB 13 rfl)))
theorem qamG : ∀ w ∈ u_ws RX11 TX11 55, w ∈ wsX11_thrown := uiM qaoG qfa (by decide +kernel)
theorem qaud : (.fieldLink RX11 3 "MarchHaresModel" "thrown" "I" : Cond) ∈ wsX11_thrown := qaoG 589 (by decide +kernel)
set_option maxHeartbeats 4000000 in
set_option maxRecDepth 100000 in
theorem qaQo (l : Launch) (dC : Nat → ClassId) (dI : Nat → Nat → Nat) (cyB cyI cyJ cyP : ClassId) (a0 sz : Nat) (jaF jaD ja7 jby jbe jaM jaY jap jaK jal jam jax jao ja6 jaV ja8 jae jag jaf ja0 ja4 jaP jaw jaI jaZ jaG jaS jan jaU jaE jar jaL jah jaB jaa jaz jaH jab ja2 z0_s jaq jai jaO jaA jat jau jav jaj jas jaJ jak jad jay jac : Value) (jbd : Int32) {Q : Int32 → Prop} (hw : qOj jbd Q) : Met l yX11_thrown wsX11_thrown ({ frames := 0, cells := 0, slots := 0, locals := 0 }) (va_Pc [.ref a0] (cPc (dC, dI) (kT cyB cyI cyJ cyP) (q98 a0 jbd jaF jaD ja7 jby jbe jaM jaY jap jaK jal jam jax jao ja6 jaV ja8 jae jag jaf ja0 ja4 jaP jaw jaI jaZ jaG jaS jan jaU jaE jar jaL jah jaB jaa jaz jaH jab ja2 z0_s jaq jai jaO jaA jat jau jav jaj jas jaJ jak jad jay jac) sz)) (va_Qi (fun (r : Int32) (_ : Unit) => Q r ) (cB (dC, dI) (kT cyB cyI cyJ cyP) (va_A (q98 a0 jbd jaF jaD ja7 jby jbe jaM jaY jap jaK jal jam jax jao ja6 jaV ja8 jae jag jaf ja0 ja4 jaP jaw jaI jaZ jaG jaS jan jaU jaE jar jaL jah jaB jaa jaz jaH jab ja2 z0_s jaq jai jaO jaA jat jau jav jaj jas jaJ jak jad jay jac) sz) (fun u : Unit => ((q98 a0 jbd jaF jaD ja7 jby jbe jaM jaY jap jaK jal jam jax jao ja6 jaV ja8 jae jag jaf ja0 ja4 jaP jaw jaI jaZ jaG jaS jan jaU jaE jar jaL jah jaB jaa jaz jaH jab ja2 z0_s jaq jai jaO jaA jat jau jav jaj jas jaJ jak jad jay jac) : va_W))) (va_A (q98 a0 jbd jaF jaD ja7 jby jbe jaM jaY jap jaK jal jam jax jao ja6 jaV ja8 jae jag jaf ja0 ja4 jaP jaw jaI jaZ jaG jaS jan jaU jaE jar jaL jah jaB jaa jaz jaH jab ja2 z0_s jaq jai jaO jaA jat jau jav jaj jas jaJ jak jad jay jac) sz)) 0 0 (va_A (q98 a0 jbd jaF jaD ja7 jby jbe jaM jaY jap jaK jal jam jax jao ja6 jaV ja8 jae jag jaf ja0 ja4 jaP jaw jaI jaZ jaG jaS jan jaU jaE jar jaL jah jaB jaa jaz jaH jab ja2 z0_s jaq jai jaO jaA jat jau jav jaj jas jaJ jak jad jay jac) sz) := by
  refine Met.ofW (cc := cX11_thrown) (maxL := 1) (ret := (some .int)) (by decide) rfl ?_
  intro p e s m args below meth c s₁ B hml hv
  obtain ⟨rfl, hsz, hP, hK, hD0, hNw⟩ := hv
  have hx := B.exec
  have hb := B.bytes
  have hr := B.returns
  have hts := atoms_spec (ws := wsX11_thrown) B.pre
  have hown : s.vm.findClass RX11 = some m.cls := findClass_of_methodNamed B.named
  have hlocks := B.notSynchronized
  subst hsz
  have hD := hD0.self (sz := s.heap.size)
  generalize hAe : va_A (q98 a0 jbd jaF jaD ja7 jby jbe jaM jaY jap jaK jal jam jax jao ja6 jaV ja8 jae jag jaf ja0 ja4 jaP jaw jaI jaZ jaG jaS jan jaU jaE jar jaL jah jaB jaa jaz jaH jab ja2 z0_s jaq jai jaO jaA jat jau jav jaj jas jaJ jak jad jay jac) s.heap.size = A at hD ⊢
  have hA : ∀ q : Nat, s.heap.size ≤ q → A q := fun q h => by rw [← hAe]; exact Or.inr h
  have hS : va_S A s.heap s.heap [] := va_S.rf
  have hP : va_P (dC, dI) vwCl (q98 a0 jbd jaF jaD ja7 jby jbe jaM jaY jap jaK jal jam jax jao ja6 jaV ja8 jae jag jaf ja0 ja4 jaP jaw jaI jaZ jaG jaS jan jaU jaE jar jaL jah jaB jaa jaz jaH jab ja2 z0_s jaq jai jaO jaA jat jau jav jaj jas jaJ jak jad jay jac) s.heap := hP
  have hl := lv_entry ([.ref a0]) (n := 1) (nbq rfl)
  rw [lg_entry_eq]
  generalize (lg_sl ([.ref a0]) ++ List.replicate (1 - (lg_sl ([.ref a0])).length) Slot.unset).toArray = ls at hl ⊢
  have hl : lv_has ls 1 [(0, .ref a0)] := hl
  have C0 : cfx p s m _ meth c cX11_thrown (some .int) wsX11_thrown RX11 1 A (dC, dI) (kT cyB cyI cyJ cyP) := ⟨hx, hb, hr, hts, hown, hlocks, hml, hA, hK, hNw⟩
  clear hAe
  obtain ⟨H, hH⟩ : ∃ H, H = s.heap := ⟨_, rfl⟩
  rw [← hH] at hP ⊢
  have hS : va_S A s.heap H [] := by rw [hH]; exact va_S.rf
  have hS := hS
  refine lv_aload_n hx hb (qaa qQa 0 rfl) rfl (lv_at hl 0 rfl) ?_
  refine va_get (D := (dC, dI)) (ci := 11) (v := .int jbd) (C := RX11) (T := TX11) (N := 55) hx hb hts qamG hown hK hP 0 rfl rfl 0 (by decide) (hts _ qaud) (fun _ h9 => h9) rfl (qaa qQa 1 rfl) ?_
  exact ((W.iret (v := jbd) hx hb hr (fun t ht hW => ⟨⟨jbd, (), rfl, hw, by rw [ht]; exact hP, va_K.moved hW.alike hK, hD⟩, hS.F ht⟩) hS.2.2 (qaa qQa 2 rfl)))
theorem qOI : ∀ w ∈ u_ws RX11 TX11 55, w ∈ wsX11_ties := uiM qAF qfa (by decide +kernel)
theorem qaqo : (.fieldLink RX11 169 "MarchHaresModel" "hares" "I" : Cond) ∈ wsX11_ties := qAF 520 (by decide +kernel)
theorem qaFy : (.fieldLink RX11 3 "MarchHaresModel" "thrown" "I" : Cond) ∈ wsX11_ties := qAF 589 (by decide +kernel)
theorem qay0 : (.fieldLink RX11 68 "MarchHaresModel" "now" "[I" : Cond) ∈ wsX11_ties := qAF 456 (by decide +kernel)
set_option maxHeartbeats 4000000 in
set_option maxRecDepth 100000 in
theorem q7A {p : Program} {l : Launch} {e : Env} {s : State} {m : MethodId} {args : Array Value} {below : List Frame} {meth : Method} {c : Code} {A : Nat → Prop} (dC : Nat → ClassId) (dI : Nat → Nat → Nat) (cyB cyI cyJ cyP : ClassId) (a0 jaQ jaT : Nat) (jaD ja7 jby jbe jaM jaY jap jaK jal jam jax jao ja6 jaV ja8 jae jag jaf ja0 jaP jaw jaI jaZ jaG jaS jan jaU jaE jar jaL jah jaB jaa jaz jaH jab z0_s jaq jai jaO jaA jat jau jav jaj jas jaJ jak jad jay jac : Value) (jaC : Int32) (jb2 : NI) (Q : Int32 → Int32 → NI → Prop) (K36 : Int32 → NI → Int32 → Int32 → Int32 → Int32 → Prop) (hK36 : ∀ (H : Heap) (locs : List Loc) (ls : Array Slot) (jbd : Int32) (ja9 : NI) (l1 l2 l3 l4 : Int32), va_P (dC, dI) vwCl (qsM a0 jbd jaQ jaD ja7 jby jbe jaM jaY jap jaK jal jam jax jao ja6 jaV ja8 jae jag jaf ja0 jaC jaP jaw jaI jaZ jaG jaS jan jaU jaE jar jaL jah jaB jaa jaz jaH jab jaT z0_s jaq jai jaO jaA jat jau jav jaj jas jaJ jak jad jay jac jaQ cyI ja9 jaT cyI jb2) H → va_D A (qsM a0 jbd jaQ jaD ja7 jby jbe jaM jaY jap jaK jal jam jax jao ja6 jaV ja8 jae jag jaf ja0 jaC jaP jaw jaI jaZ jaG jaS jan jaU jaE jar jaL jah jaB jaa jaz jaH jab jaT z0_s jaq jai jaO jaA jat jau jav jaj jas jaJ jak jad jay jac jaQ cyI ja9 jaT cyI jb2) → va_S A s.heap H locs → lv_has ls 5 [(0, .ref a0), (1, .int l1), (2, .int l2), (3, .int l3), (4, .int l4)] → K36 jbd ja9 l1 l2 l3 l4 → W p l e (headSpec wsX11_ties ({ frames := 2, cells := 0, slots := 0, locals := 45 })).room s m args below meth c H locs 0 0 (MQ below (va_Qi (fun (r : Int32) (u : Int32 × NI) => Q r u.1 u.2) (cB (dC, dI) (kT cyB cyI cyJ cyP) A (fun u : Int32 × NI => ((qsM a0 u.1 jaQ jaD ja7 jby jbe jaM jaY jap jaK jal jam jax jao ja6 jaV ja8 jae jag jaf ja0 jaC jaP jaw jaI jaZ jaG jaS jan jaU jaE jar jaL jah jaB jaa jaz jaH jab jaT z0_s jaq jai jaO jaA jat jau jav jaj jas jaJ jak jad jay jac jaQ cyI u.2 jaT cyI jb2) : va_W))) A) args s 0 0 A) (F0 m 36 ls [])) (C0 : cfx p s m args meth c cX11_ties (some .int) wsX11_ties RX11 5 A (dC, dI) (kT cyB cyI cyJ cyP)) : ∀ (H : Heap) (locs : List Loc) (ls : Array Slot) (jbd : Int32) (ja9 : NI) (l1 l2 l4 s0 s1 : Int32), va_P (dC, dI) vwCl (qsM a0 jbd jaQ jaD ja7 jby jbe jaM jaY jap jaK jal jam jax jao ja6 jaV ja8 jae jag jaf ja0 jaC jaP jaw jaI jaZ jaG jaS jan jaU jaE jar jaL jah jaB jaa jaz jaH jab jaT z0_s jaq jai jaO jaA jat jau jav jaj jas jaJ jak jad jay jac jaQ cyI ja9 jaT cyI jb2) H → va_D A (qsM a0 jbd jaQ jaD ja7 jby jbe jaM jaY jap jaK jal jam jax jao ja6 jaV ja8 jae jag jaf ja0 jaC jaP jaw jaI jaZ jaG jaS jan jaU jaE jar jaL jah jaB jaa jaz jaH jab jaT z0_s jaq jai jaO jaA jat jau jav jaj jas jaJ jak jad jay jac jaQ cyI ja9 jaT cyI jb2) → va_S A s.heap H locs → lv_has ls 5 [(0, .ref a0), (1, .int l1), (2, .int l2), (4, .int l4)] → qUf jaC jb2 Q K36 jbd ja9 l1 l2 l4 s0 s1 → W p l e (headSpec wsX11_ties ({ frames := 2, cells := 0, slots := 0, locals := 45 })).room s m args below meth c H locs 0 0 (MQ below (va_Qi (fun (r : Int32) (u : Int32 × NI) => Q r u.1 u.2) (cB (dC, dI) (kT cyB cyI cyJ cyP) A (fun u : Int32 × NI => ((qsM a0 u.1 jaQ jaD ja7 jby jbe jaM jaY jap jaK jal jam jax jao ja6 jaV ja8 jae jag jaf ja0 jaC jaP jaw jaI jaZ jaG jaS jan jaU jaE jar jaL jah jaB jaa jaz jaH jab jaT z0_s jaq jai jaO jaA jat jau jav jaj jas jaJ jak jad jay jac jaQ cyI u.2 jaT cyI jb2) : va_W))) A) args s 0 0 A) (F0 m 86 ls [.int s1, .int s0]) := by
  obtain ⟨hx, hb, hr, hts, hown, hlocks, hml, hA, hK, hNw⟩ := id C0
  intro H locs ls jbd ja9 l1 l2 l4 s0 s1 hP hD hS hl hw
  refine lv_ior hx hb (qaa qrJ 4 rfl) ?_
  refine lv_topi (fun x15 ex15 => ?_)
  have hw := hw x15 ex15
  refine lv_istore_n (lv' := [(3, .int x15), (0, .ref a0), (1, .int l1), (2, .int l2), (4, .int l4)]) hx hb (qaa qrJ 5 rfl) rfl hl (by decide) rfl (fun ls hl => ?_)
  obtain ⟨x16, ex16⟩ : ∃ y : Int32, y = l4 + 1 := ⟨_, rfl⟩
  have hw := hw x16 ex16
  refine lv_iinc (v := x16) (lv' := [(4, .int x16), (3, .int x15), (0, .ref a0), (1, .int l1), (2, .int l2)]) hx hb (qaa qrJ 6 rfl) hl (k := 4) rfl (by rw [ex16]; rfl) (by decide) rfl (fun ls hl => ?_)
  refine lv_goto (tgt := 36) hx hb (qaa qrJ 7 rfl) (by decide) ?_
  exact hK36 _ _ _ jbd ja9 l1 l2 x15 x16 hP hD hS (lv_sub hl [2, 3, 4, 1, 0] rfl) hw
set_option maxHeartbeats 4000000 in
set_option maxRecDepth 100000 in
theorem q7F {p : Program} {l : Launch} {e : Env} {s : State} {m : MethodId} {args : Array Value} {below : List Frame} {meth : Method} {c : Code} {A : Nat → Prop} (dC : Nat → ClassId) (dI : Nat → Nat → Nat) (cyB cyI cyJ cyP : ClassId) (a0 jaQ jaT : Nat) (jaD ja7 jby jbe jaM jaY jap jaK jal jam jax jao ja6 jaV ja8 jae jag jaf ja0 jaP jaw jaI jaZ jaG jaS jan jaU jaE jar jaL jah jaB jaa jaz jaH jab z0_s jaq jai jaO jaA jat jau jav jaj jas jaJ jak jad jay jac : Value) (jaC : Int32) (jb2 : NI) (Q : Int32 → Int32 → NI → Prop) (K36 : Int32 → NI → Int32 → Int32 → Int32 → Int32 → Prop) (hK36 : ∀ (H : Heap) (locs : List Loc) (ls : Array Slot) (jbd : Int32) (ja9 : NI) (l1 l2 l3 l4 : Int32), va_P (dC, dI) vwCl (qsM a0 jbd jaQ jaD ja7 jby jbe jaM jaY jap jaK jal jam jax jao ja6 jaV ja8 jae jag jaf ja0 jaC jaP jaw jaI jaZ jaG jaS jan jaU jaE jar jaL jah jaB jaa jaz jaH jab jaT z0_s jaq jai jaO jaA jat jau jav jaj jas jaJ jak jad jay jac jaQ cyI ja9 jaT cyI jb2) H → va_D A (qsM a0 jbd jaQ jaD ja7 jby jbe jaM jaY jap jaK jal jam jax jao ja6 jaV ja8 jae jag jaf ja0 jaC jaP jaw jaI jaZ jaG jaS jan jaU jaE jar jaL jah jaB jaa jaz jaH jab jaT z0_s jaq jai jaO jaA jat jau jav jaj jas jaJ jak jad jay jac jaQ cyI ja9 jaT cyI jb2) → va_S A s.heap H locs → lv_has ls 5 [(0, .ref a0), (1, .int l1), (2, .int l2), (3, .int l3), (4, .int l4)] → K36 jbd ja9 l1 l2 l3 l4 → W p l e (headSpec wsX11_ties ({ frames := 2, cells := 0, slots := 0, locals := 45 })).room s m args below meth c H locs 0 0 (MQ below (va_Qi (fun (r : Int32) (u : Int32 × NI) => Q r u.1 u.2) (cB (dC, dI) (kT cyB cyI cyJ cyP) A (fun u : Int32 × NI => ((qsM a0 u.1 jaQ jaD ja7 jby jbe jaM jaY jap jaK jal jam jax jao ja6 jaV ja8 jae jag jaf ja0 jaC jaP jaw jaI jaZ jaG jaS jan jaU jaE jar jaL jah jaB jaa jaz jaH jab jaT z0_s jaq jai jaO jaA jat jau jav jaj jas jaJ jak jad jay jac jaQ cyI u.2 jaT cyI jb2) : va_W))) A) args s 0 0 A) (F0 m 36 ls [])) (C0 : cfx p s m args meth c cX11_ties (some .int) wsX11_ties RX11 5 A (dC, dI) (kT cyB cyI cyJ cyP)) : ∀ (H : Heap) (locs : List Loc) (ls : Array Slot) (jbd : Int32) (ja9 : NI) (l1 l2 l4 s0 s2 s3 : Int32), va_P (dC, dI) vwCl (qsM a0 jbd jaQ jaD ja7 jby jbe jaM jaY jap jaK jal jam jax jao ja6 jaV ja8 jae jag jaf ja0 jaC jaP jaw jaI jaZ jaG jaS jan jaU jaE jar jaL jah jaB jaa jaz jaH jab jaT z0_s jaq jai jaO jaA jat jau jav jaj jas jaJ jak jad jay jac jaQ cyI ja9 jaT cyI jb2) H → va_D A (qsM a0 jbd jaQ jaD ja7 jby jbe jaM jaY jap jaK jal jam jax jao ja6 jaV ja8 jae jag jaf ja0 jaC jaP jaw jaI jaZ jaG jaS jan jaU jaE jar jaL jah jaB jaa jaz jaH jab jaT z0_s jaq jai jaO jaA jat jau jav jaj jas jaJ jak jad jay jac jaQ cyI ja9 jaT cyI jb2) → va_S A s.heap H locs → lv_has ls 5 [(0, .ref a0), (1, .int l1), (2, .int l2), (4, .int l4)] → qTS jaC jb2 Q K36 jbd ja9 l1 l2 l4 s0 s2 s3 → W p l e (headSpec wsX11_ties ({ frames := 2, cells := 0, slots := 0, locals := 45 })).room s m args below meth c H locs 0 0 (MQ below (va_Qi (fun (r : Int32) (u : Int32 × NI) => Q r u.1 u.2) (cB (dC, dI) (kT cyB cyI cyJ cyP) A (fun u : Int32 × NI => ((qsM a0 u.1 jaQ jaD ja7 jby jbe jaM jaY jap jaK jal jam jax jao ja6 jaV ja8 jae jag jaf ja0 jaC jaP jaw jaI jaZ jaG jaS jan jaU jaE jar jaL jah jaB jaa jaz jaH jab jaT z0_s jaq jai jaO jaA jat jau jav jaj jas jaJ jak jad jay jac jaQ cyI u.2 jaT cyI jb2) : va_W))) A) args s 0 0 A) (F0 m 73 ls [.int s3, .int s2, .ref jaT, .int s0]) := by
  obtain ⟨hx, hb, hr, hts, hown, hlocks, hml, hA, hK, hNw⟩ := id C0
  intro H locs ls jbd ja9 l1 l2 l4 s0 s2 s3 hP hD hS hl hw
  refine lv_iadd hx hb (qaa qi4 12 rfl) ?_
  refine lv_topi (fun x12 ex12 => ?_)
  have hw := hw x12 ex12
  obtain ⟨hi9, hw⟩ := hw
  refine va_iald hx hb hK hP 2 1 rfl rfl hi9 (qaa qi4 13 rfl) ?_
  refine lv_topi (fun x13 ex13 => ?_)
  have hw := hw x13 ex13
  refine lv_if_le (tgt := 85) hx hb (qaa qi4 14 rfl) (by decide) (fun c14 => ?_) (fun c14 => ?_)
  · have hw := hw.1 c14
    refine lv_iconst (v := 0) hx hb (qaa qrJ 3 rfl) (by decide) ?_
    exact q7A dC dI cyB cyI cyJ cyP a0 jaQ jaT jaD ja7 jby jbe jaM jaY jap jaK jal jam jax jao ja6 jaV ja8 jae jag jaf ja0 jaP jaw jaI jaZ jaG jaS jan jaU jaE jar jaL jah jaB jaa jaz jaH jab z0_s jaq jai jaO jaA jat jau jav jaj jas jaJ jak jad jay jac jaC jb2 Q K36 hK36 C0 _ _ _ jbd ja9 l1 l2 l4 s0 0 hP hD hS (lv_sub hl [0, 1, 2, 3] rfl) hw
  · have hw := hw.2 c14
    refine lv_iconst (v := 1) hx hb (qaa qi4 15 rfl) (by decide) ?_
    refine lv_iload hx hb (qaa qrJ 0 rfl) (lv_at hl 3 rfl) ?_
    refine lv_ishl hx hb (qaa qrJ 1 rfl) ?_
    refine lv_goto (tgt := 86) hx hb (qaa qrJ 2 rfl) (by decide) ?_
    exact q7A dC dI cyB cyI cyJ cyP a0 jaQ jaT jaD ja7 jby jbe jaM jaY jap jaK jal jam jax jao ja6 jaV ja8 jae jag jaf ja0 jaP jaw jaI jaZ jaG jaS jan jaU jaE jar jaL jah jaB jaa jaz jaH jab z0_s jaq jai jaO jaA jat jau jav jaj jas jaJ jak jad jay jac jaC jb2 Q K36 hK36 C0 _ _ _ jbd ja9 l1 l2 l4 s0 (1 <<< (l4 &&& 31)) hP hD hS (lv_sub hl [0, 1, 2, 3] rfl) hw
set_option maxHeartbeats 4000000 in
set_option maxRecDepth 100000 in
theorem qaJK {p : Program} {l : Launch} {e : Env} {s : State} {m : MethodId} {args : Array Value} {below : List Frame} {meth : Method} {c : Code} {A : Nat → Prop} (dC : Nat → ClassId) (dI : Nat → Nat → Nat) (cyB cyI cyJ cyP : ClassId) (a0 jaQ jaT : Nat) (jaD ja7 jby jbe jaM jaY jap jaK jal jam jax jao ja6 jaV ja8 jae jag jaf ja0 jaP jaw jaI jaZ jaG jaS jan jaU jaE jar jaL jah jaB jaa jaz jaH jab z0_s jaq jai jaO jaA jat jau jav jaj jas jaJ jak jad jay jac : Value) (jaC : Int32) (jb2 : NI) (Q : Int32 → Int32 → NI → Prop) (C0 : cfx p s m args meth c cX11_ties (some .int) wsX11_ties RX11 5 A (dC, dI) (kT cyB cyI cyJ cyP)) : ∀ (n : Nat) (H : Heap) (locs : List Loc) (ls : Array Slot) (jbd : Int32) (ja9 : NI) (l1 l2 l3 l4 : Int32), va_P (dC, dI) vwCl (qsM a0 jbd jaQ jaD ja7 jby jbe jaM jaY jap jaK jal jam jax jao ja6 jaV ja8 jae jag jaf ja0 jaC jaP jaw jaI jaZ jaG jaS jan jaU jaE jar jaL jah jaB jaa jaz jaH jab jaT z0_s jaq jai jaO jaA jat jau jav jaj jas jaJ jak jad jay jac jaQ cyI ja9 jaT cyI jb2) H → va_D A (qsM a0 jbd jaQ jaD ja7 jby jbe jaM jaY jap jaK jal jam jax jao ja6 jaV ja8 jae jag jaf ja0 jaC jaP jaw jaI jaZ jaG jaS jan jaU jaE jar jaL jah jaB jaa jaz jaH jab jaT z0_s jaq jai jaO jaA jat jau jav jaj jas jaJ jak jad jay jac jaQ cyI ja9 jaT cyI jb2) → va_S A s.heap H locs → lv_has ls 5 [(0, .ref a0), (1, .int l1), (2, .int l2), (3, .int l3), (4, .int l4)] → qxK jaC jb2 Q n jbd ja9 l1 l2 l3 l4 → W p l e (headSpec wsX11_ties ({ frames := 2, cells := 0, slots := 0, locals := 45 })).room s m args below meth c H locs 0 0 (MQ below (va_Qi (fun (r : Int32) (u : Int32 × NI) => Q r u.1 u.2) (cB (dC, dI) (kT cyB cyI cyJ cyP) A (fun u : Int32 × NI => ((qsM a0 u.1 jaQ jaD ja7 jby jbe jaM jaY jap jaK jal jam jax jao ja6 jaV ja8 jae jag jaf ja0 jaC jaP jaw jaI jaZ jaG jaS jan jaU jaE jar jaL jah jaB jaa jaz jaH jab jaT z0_s jaq jai jaO jaA jat jau jav jaj jas jaJ jak jad jay jac jaQ cyI u.2 jaT cyI jb2) : va_W))) A) args s 0 0 A) (F0 m 36 ls []) := by
  obtain ⟨hx, hb, hr, hts, hown, hlocks, hml, hA, hK, hNw⟩ := id C0
  intro n
  induction n with
  | zero => intro H locs ls jbd ja9 l1 l2 l3 l4 hP hD hS hl hw; exact False.elim hw
  | succ n ih =>
    intro H locs ls jbd ja9 l1 l2 l3 l4 hP hD hS hl hw
    refine lv_iload hx hb (qaa qgp 7 rfl) (lv_at hl 4 rfl) ?_
    refine lv_aload_n hx hb (qaa qgp 8 rfl) rfl (lv_at hl 0 rfl) ?_
    refine va_get (D := (dC, dI)) (ci := 11) (v := .int jaC) (C := RX11) (T := TX11) (N := 55) hx hb hts qOI hown hK hP 0 rfl rfl 21 (by decide) (hts _ qaqo) (fun _ h9 => h9) rfl (qaa qgp 9 rfl) ?_
    refine lv_icmp_ge (tgt := 94) hx hb (qaa qgp 10 rfl) (by decide) (fun c10 => ?_) (fun c10 => ?_)
    · have hw := hw.1 c10
      refine lv_iload_n hx hb (qaa qrJ 8 rfl) rfl (lv_at hl 3 rfl) ?_
      exact ((W.iret (v := l3) hx hb hr (fun t ht hW => ⟨⟨l3, (jbd, ja9), rfl, hw, by rw [ht]; exact hP, va_K.moved hW.alike hK, hD⟩, hS.F ht⟩) hS.2.2 (qaa qrJ 9 rfl)))
    · have hw := hw.2 c10
      refine lv_iload_n hx hb (qaa qgp 11 rfl) rfl (lv_at hl 3 rfl) ?_
      refine lv_aload_n hx hb (qaa qgp 12 rfl) rfl (lv_at hl 0 rfl) ?_
      refine va_get (D := (dC, dI)) (ci := 11) (v := .ref jaT) (C := RX11) (T := TX11) (N := 55) hx hb hts qOI hown hK hP 0 rfl rfl 39 (by decide) (hts _ qay0) (fun _ h9 => h9) rfl (qaa qgp 13 rfl) ?_
      refine lv_bipush (v := 30) hx hb (qaa qgp 14 rfl) (by decide) ?_
      refine lv_iload_n hx hb (qaa qgp 15 rfl) rfl (lv_at hl 2 rfl) ?_
      refine lv_if_ne (tgt := 66) hx hb (qaa qi4 0 rfl) (by decide) (fun c11 => ?_) (fun c11 => ?_)
      · have hw := hw.1 c11
        refine lv_bipush (v := 6) hx hb (qaa qi4 7 rfl) (by decide) ?_
        refine lv_iload hx hb (qaa qi4 8 rfl) (lv_at hl 4 rfl) ?_
        refine lv_imul hx hb (qaa qi4 9 rfl) ?_
        refine lv_iload_n hx hb (qaa qi4 10 rfl) rfl (lv_at hl 1 rfl) ?_
        refine lv_iadd hx hb (qaa qi4 11 rfl) ?_
        exact q7F dC dI cyB cyI cyJ cyP a0 jaQ jaT jaD ja7 jby jbe jaM jaY jap jaK jal jam jax jao ja6 jaV ja8 jae jag jaf ja0 jaP jaw jaI jaZ jaG jaS jan jaU jaE jar jaL jah jaB jaa jaz jaH jab z0_s jaq jai jaO jaA jat jau jav jaj jas jaJ jak jad jay jac jaC jb2 Q (qxK jaC jb2 Q n) ih C0 _ _ _ jbd ja9 l1 l2 l4 l3 30 ((6 * l4) + l1) hP hD hS (lv_sub hl [0, 1, 2, 4] rfl) hw
      · have hw := hw.2 c11
        refine lv_bipush (v := 6) hx hb (qaa qi4 1 rfl) (by decide) ?_
        refine lv_iload_n hx hb (qaa qi4 2 rfl) rfl (lv_at hl 1 rfl) ?_
        refine lv_imul hx hb (qaa qi4 3 rfl) ?_
        refine lv_iload hx hb (qaa qi4 4 rfl) (lv_at hl 4 rfl) ?_
        refine lv_iadd hx hb (qaa qi4 5 rfl) ?_
        refine lv_goto (tgt := 73) hx hb (qaa qi4 6 rfl) (by decide) ?_
        exact q7F dC dI cyB cyI cyJ cyP a0 jaQ jaT jaD ja7 jby jbe jaM jaY jap jaK jal jam jax jao ja6 jaV ja8 jae jag jaf ja0 jaP jaw jaI jaZ jaG jaS jan jaU jaE jar jaL jah jaB jaa jaz jaH jab z0_s jaq jai jaO jaA jat jau jav jaj jas jaJ jak jad jay jac jaC jb2 Q (qxK jaC jb2 Q n) ih C0 _ _ _ jbd ja9 l1 l2 l4 l3 30 ((6 * l1) + l4) hP hD hS (lv_sub hl [0, 1, 2, 4] rfl) hw
set_option maxHeartbeats 4000000 in
set_option maxRecDepth 100000 in
theorem qaXB (l : Launch) (dC : Nat → ClassId) (dI : Nat → Nat → Nat) (cyB cyI cyJ cyP : ClassId) (a0 jaQ jaT sz : Nat) (jaD ja7 jby jbe jaM jaY jap jaK jal jam jax jao ja6 jaV ja8 jae jag jaf ja0 jaP jaw jaI jaZ jaG jaS jan jaU jaE jar jaL jah jaB jaa jaz jaH jab z0_s jaq jai jaO jaA jat jau jav jaj jas jaJ jak jad jay jac : Value) (jaC : Int32) (jb2 : NI) (jbd : Int32) (ja9 : NI) (p1 p2 : Int32) {Q : Int32 → Int32 → NI → Prop} (hw : qabW jaC jb2 jbd ja9 p1 p2 Q) : Met l yX11_ties wsX11_ties ({ frames := 2, cells := 0, slots := 0, locals := 45 }) (va_Pc [.ref a0, .int p1, .int p2] (cPc (dC, dI) (kT cyB cyI cyJ cyP) (qsM a0 jbd jaQ jaD ja7 jby jbe jaM jaY jap jaK jal jam jax jao ja6 jaV ja8 jae jag jaf ja0 jaC jaP jaw jaI jaZ jaG jaS jan jaU jaE jar jaL jah jaB jaa jaz jaH jab jaT z0_s jaq jai jaO jaA jat jau jav jaj jas jaJ jak jad jay jac jaQ cyI ja9 jaT cyI jb2) sz)) (va_Qi (fun (r : Int32) (u : Int32 × NI) => Q r u.1 u.2) (cB (dC, dI) (kT cyB cyI cyJ cyP) (va_A (qsM a0 jbd jaQ jaD ja7 jby jbe jaM jaY jap jaK jal jam jax jao ja6 jaV ja8 jae jag jaf ja0 jaC jaP jaw jaI jaZ jaG jaS jan jaU jaE jar jaL jah jaB jaa jaz jaH jab jaT z0_s jaq jai jaO jaA jat jau jav jaj jas jaJ jak jad jay jac jaQ cyI ja9 jaT cyI jb2) sz) (fun u : Int32 × NI => ((qsM a0 u.1 jaQ jaD ja7 jby jbe jaM jaY jap jaK jal jam jax jao ja6 jaV ja8 jae jag jaf ja0 jaC jaP jaw jaI jaZ jaG jaS jan jaU jaE jar jaL jah jaB jaa jaz jaH jab jaT z0_s jaq jai jaO jaA jat jau jav jaj jas jaJ jak jad jay jac jaQ cyI u.2 jaT cyI jb2) : va_W))) (va_A (qsM a0 jbd jaQ jaD ja7 jby jbe jaM jaY jap jaK jal jam jax jao ja6 jaV ja8 jae jag jaf ja0 jaC jaP jaw jaI jaZ jaG jaS jan jaU jaE jar jaL jah jaB jaa jaz jaH jab jaT z0_s jaq jai jaO jaA jat jau jav jaj jas jaJ jak jad jay jac jaQ cyI ja9 jaT cyI jb2) sz)) 0 0 (va_A (qsM a0 jbd jaQ jaD ja7 jby jbe jaM jaY jap jaK jal jam jax jao ja6 jaV ja8 jae jag jaf ja0 jaC jaP jaw jaI jaZ jaG jaS jan jaU jaE jar jaL jah jaB jaa jaz jaH jab jaT z0_s jaq jai jaO jaA jat jau jav jaj jas jaJ jak jad jay jac jaQ cyI ja9 jaT cyI jb2) sz) := by
  refine Met.ofW (cc := cX11_ties) (maxL := 5) (ret := (some .int)) (by decide) rfl ?_
  intro p e s m args below meth c s₁ B hml hv
  obtain ⟨rfl, hsz, hP, hK, hD0, hNw⟩ := hv
  have hx := B.exec
  have hb := B.bytes
  have hr := B.returns
  have hts := atoms_spec (ws := wsX11_ties) B.pre
  have hown : s.vm.findClass RX11 = some m.cls := findClass_of_methodNamed B.named
  have hlocks := B.notSynchronized
  subst hsz
  have hD := hD0.self (sz := s.heap.size)
  generalize hAe : va_A (qsM a0 jbd jaQ jaD ja7 jby jbe jaM jaY jap jaK jal jam jax jao ja6 jaV ja8 jae jag jaf ja0 jaC jaP jaw jaI jaZ jaG jaS jan jaU jaE jar jaL jah jaB jaa jaz jaH jab jaT z0_s jaq jai jaO jaA jat jau jav jaj jas jaJ jak jad jay jac jaQ cyI ja9 jaT cyI jb2) s.heap.size = A at hD ⊢
  have hA : ∀ q : Nat, s.heap.size ≤ q → A q := fun q h => by rw [← hAe]; exact Or.inr h
  have hS : va_S A s.heap s.heap [] := va_S.rf
  have hP : va_P (dC, dI) vwCl (qsM a0 jbd jaQ jaD ja7 jby jbe jaM jaY jap jaK jal jam jax jao ja6 jaV ja8 jae jag jaf ja0 jaC jaP jaw jaI jaZ jaG jaS jan jaU jaE jar jaL jah jaB jaa jaz jaH jab jaT z0_s jaq jai jaO jaA jat jau jav jaj jas jaJ jak jad jay jac jaQ cyI ja9 jaT cyI jb2) s.heap := hP
  have hl := lv_entry ([.ref a0, .int p1, .int p2]) (n := 5) (nbq rfl)
  rw [lg_entry_eq]
  generalize (lg_sl ([.ref a0, .int p1, .int p2]) ++ List.replicate (5 - (lg_sl ([.ref a0, .int p1, .int p2])).length) Slot.unset).toArray = ls at hl ⊢
  have hl : lv_has ls 5 [(0, .ref a0), (1, .int p1), (2, .int p2)] := hl
  have C0 : cfx p s m _ meth c cX11_ties (some .int) wsX11_ties RX11 5 A (dC, dI) (kT cyB cyI cyJ cyP) := ⟨hx, hb, hr, hts, hown, hlocks, hml, hA, hK, hNw⟩
  clear hAe
  obtain ⟨H, hH⟩ : ∃ H, H = s.heap := ⟨_, rfl⟩
  rw [← hH] at hP ⊢
  have hS : va_S A s.heap H [] := by rw [hH]; exact va_S.rf
  have hS := hS
  refine lv_aload_n hx hb (qaa ql4 0 rfl) rfl (lv_at hl 0 rfl) ?_
  refine lv_iconst (v := 0) hx hb (qaa ql4 1 rfl) (by decide) ?_
  refine va_put (D := (dC, dI)) (ci := 11) (v := .int 0) (ty := .int) (C := RX11) (T := TX11) (N := 55) hx hb hts qOI tyX11 tyX11_ok nmX11 hown hK hP hD hS 0 rfl rfl 0 (by decide) (hts _ qaFy) (fun _ h9 => h9) rfl (by decide +kernel) rfl rfl (nbq rfl) (qaa ql4 2 rfl) (fun H locs hP hD hS => ?_)
  have hP : va_P (dC, dI) vwCl (qsM a0 0 jaQ jaD ja7 jby jbe jaM jaY jap jaK jal jam jax jao ja6 jaV ja8 jae jag jaf ja0 jaC jaP jaw jaI jaZ jaG jaS jan jaU jaE jar jaL jah jaB jaa jaz jaH jab jaT z0_s jaq jai jaO jaA jat jau jav jaj jas jaJ jak jad jay jac jaQ cyI ja9 jaT cyI jb2) H := hP
  have hD : va_D A (qsM a0 0 jaQ jaD ja7 jby jbe jaM jaY jap jaK jal jam jax jao ja6 jaV ja8 jae jag jaf ja0 jaC jaP jaw jaI jaZ jaG jaS jan jaU jaE jar jaL jah jaB jaa jaz jaH jab jaT z0_s jaq jai jaO jaA jat jau jav jaj jas jaJ jak jad jay jac jaQ cyI ja9 jaT cyI jb2) := hD
  refine lv_aload_n hx hb (qaa ql4 3 rfl) rfl (lv_at hl 0 rfl) ?_
  refine lv_iload_n hx hb (qaa ql4 4 rfl) rfl (lv_at hl 1 rfl) ?_
  refine lv_iconst (v := 1) hx hb (qaa ql4 5 rfl) (by decide) ?_
  obtain ⟨hCc, hPc, hDc, hFc⟩ := qac (ws' := (qaQg a0 0 jaQ jaD ja7 jby jbe jaM jaY jap jaK jal jam jax jao ja6 jaV ja8 jae jag jaf ja0 jaC jaP jaw jaI jaZ jaG jaS jan jaU jaE jar jaL jah jaB jaa jaz jaH jab jaT z0_s jaq jai jaO jaA jat jau jav jaj jas jaJ jak jad jay jac jaQ cyI ja9)) hP hD hS hA [0, 1] (by decide +kernel) rfl
  refine va_calli (va_runV (As := [.int p1, .int 1]) (rest := []) ⟨hx, hb, hml, hown, hts⟩ (qtR l dC dI cyB cyI cyJ cyP a0 jaQ H.size (jaD) (ja7) (jby) (jbe) (jaM) (jaY) (jap) (jaK) (jal) (jam) (jax) (jao) (ja6) (jaV) (ja8) (jae) (jag) (jaf) (ja0) (jaP) (jaw) (jaI) (jaZ) (jaG) (jaS) (jan) (jaU) (jaE) (jar) (jaL) (jah) (jaB) (jaa) (jaz) (jaH) (jab) (.ref jaT) (z0_s) (jaq) (jai) (jaO) (jaA) (jat) (jau) (jav) (jaj) (jas) (jaJ) (jak) (jad) (jay) (jac) jaC 0 ja9 p1 1 hw) (cwV 2 hts gX11_ties_X11_isHare rfl rfl rfl (by decide +kernel) ⟨nbq rfl, nbq rfl⟩) ⟨qab, va_recv (q := (RX11, TX11, 55)) hK hPc (ci := 11) (q0 := 0) rfl rfl, qae hPc hK hDc hNw⟩ rfl rfl hl.1 rfl (lv_room (nbq rfl)) (qaa ql4 6 rfl) ⟨nbq rfl, nbq rfl⟩) hS (fun q _ h => hFc q h) hFc (fun r3 u t H1 locs ht hvm hw hB hz1 hk1 hS => ?_)
  obtain ⟨x1, f2⟩ := u
  obtain ⟨hP1, hK1, hD1⟩ := hB
  rw [ht] at hP1
  obtain ⟨hP, hD⟩ := qad (wr := [(jaT, .inl (cyI, 68, .inl jb2))]) (w1 := (qaQg a0 x1 jaQ jaD ja7 jby jbe jaM jaY jap jaK jal jam jax jao ja6 jaV ja8 jae jag jaf ja0 jaC jaP jaw jaI jaZ jaG jaS jan jaU jaE jar jaL jah jaB jaa jaz jaH jab jaT z0_s jaq jai jaO jaA jat jau jav jaj jas jaJ jak jad jay jac jaQ cyI f2)) (wn := (qsM a0 x1 jaQ jaD ja7 jby jbe jaM jaY jap jaK jal jam jax jao ja6 jaV ja8 jae jag jaf ja0 jaC jaP jaw jaI jaZ jaG jaS jan jaU jaE jar jaL jah jaB jaa jaz jaH jab jaT z0_s jaq jai jaO jaA jat jau jav jaj jas jaJ jak jad jay jac jaQ cyI f2 jaT cyI jb2)) hP hD [0, 1] [2] [1, 2, 0] hCc rfl (by decide +kernel) (by decide +kernel) (by decide +kernel) rfl hk1 hFc hP1 hD1
  generalize H1 = H at hP hS ⊢
  refine lv_if_eq (tgt := 29) hx hb (qaa ql4 7 rfl) (by decide) (fun c4 => ?_) (fun c4 => ?_)
  · have hw := hw.1 c4
    refine lv_iconst (v := 0) hx hb (qaa qgp 1 rfl) (by decide) ?_
    exact ((W.iret (v := 0) hx hb hr (fun t ht hW => ⟨⟨0, (x1, f2), rfl, hw, by rw [ht]; exact hP, va_K.moved hW.alike hK, hD⟩, hS.F ht⟩) hS.2.2 (qaa qgp 2 rfl)))
  · have hw := hw.2 c4
    refine lv_aload_n hx hb (qaa ql4 8 rfl) rfl (lv_at hl 0 rfl) ?_
    refine lv_iload_n hx hb (qaa ql4 9 rfl) rfl (lv_at hl 2 rfl) ?_
    refine lv_iconst (v := 0) hx hb (qaa ql4 10 rfl) (by decide) ?_
    refine lv_iconst (v := 1) hx hb (qaa ql4 11 rfl) (by decide) ?_
    obtain ⟨hCc, hPc, hDc, hFc⟩ := qac (ws' := []) hP hD hS hA [] (by decide +kernel) rfl
    refine va_calli (va_runS (As := [.int p2, .int 0, .int 1]) (rest := [.ref a0]) ⟨hx, hb, hml, hown, hts⟩ (qbG l dC dI cyB cyI cyJ cyP H.size p2 0 1 hw) (va_cwS 3 hts gX11_ties_X11_within rfl rfl rfl (by decide +kernel) ⟨nbq rfl, nbq rfl⟩) ⟨qab, qae hPc hK hDc hNw⟩ rfl rfl hl.1 rfl (lv_room (nbq rfl)) (qaa ql4 12 rfl) ⟨nbq rfl, nbq rfl⟩) hS (fun q _ h => hFc q h) hFc (fun r5 u t H1 locs ht hvm hw hB hz1 hk1 hS => ?_)
    obtain ⟨hP1, hK1, hD1⟩ := hB
    rw [ht] at hP1
    obtain ⟨hP, hD⟩ := qah (wr := (qsM a0 x1 jaQ jaD ja7 jby jbe jaM jaY jap jaK jal jam jax jao ja6 jaV ja8 jae jag jaf ja0 jaC jaP jaw jaI jaZ jaG jaS jan jaU jaE jar jaL jah jaB jaa jaz jaH jab jaT z0_s jaq jai jaO jaA jat jau jav jaj jas jaJ jak jad jay jac jaQ cyI f2 jaT cyI jb2)) (w1 := []) (wn := (qsM a0 x1 jaQ jaD ja7 jby jbe jaM jaY jap jaK jal jam jax jao ja6 jaV ja8 jae jag jaf ja0 jaC jaP jaw jaI jaZ jaG jaS jan jaU jaE jar jaL jah jaB jaa jaz jaH jab jaT z0_s jaq jai jaO jaA jat jau jav jaj jas jaJ jak jad jay jac jaQ cyI f2 jaT cyI jb2)) hP hD [] [0, 1, 2] hCc rfl (by decide +kernel) (by decide +kernel) rfl hk1 hFc hP1 hD1
    generalize H1 = H at hP hS ⊢
    refine lv_iconst (v := 2) hx hb (qaa ql4 13 rfl) (by decide) ?_
    refine lv_iconst (v := 1) hx hb (qaa ql4 14 rfl) (by decide) ?_
    obtain ⟨hCc, hPc, hDc, hFc⟩ := qac (ws' := (qaQg a0 x1 jaQ jaD ja7 jby jbe jaM jaY jap jaK jal jam jax jao ja6 jaV ja8 jae jag jaf ja0 jaC jaP jaw jaI jaZ jaG jaS jan jaU jaE jar jaL jah jaB jaa jaz jaH jab jaT z0_s jaq jai jaO jaA jat jau jav jaj jas jaJ jak jad jay jac jaQ cyI f2)) hP hD hS hA [0, 1] (by decide +kernel) rfl
    refine va_calli (va_runV (As := [.int r5, .int 2, .int 1]) (rest := []) ⟨hx, hb, hml, hown, hts⟩ (qkE l dC dI cyB cyI cyJ cyP a0 jaQ H.size (jaD) (ja7) (jby) (jbe) (jaM) (jaY) (jap) (jaK) (jal) (jam) (jax) (jao) (ja6) (jaV) (ja8) (jae) (jag) (jaf) (ja0) (.int jaC) (jaP) (jaw) (jaI) (jaZ) (jaG) (jaS) (jan) (jaU) (jaE) (jar) (jaL) (jah) (jaB) (jaa) (jaz) (jaH) (jab) (.ref jaT) (z0_s) (jaq) (jai) (jaO) (jaA) (jat) (jau) (jav) (jaj) (jas) (jaJ) (jak) (jad) (jay) (jac) x1 f2 r5 2 1 hw) (cwV 3 hts gX11_ties_X11_may rfl rfl rfl (by decide +kernel) ⟨nbq rfl, nbq rfl⟩) ⟨qab, va_recv (q := (RX11, TX11, 55)) hK hPc (ci := 11) (q0 := 0) rfl rfl, qae hPc hK hDc hNw⟩ rfl rfl hl.1 rfl (lv_room (nbq rfl)) (qaa ql4 15 rfl) ⟨nbq rfl, nbq rfl⟩) hS (fun q _ h => hFc q h) hFc (fun r8 u t H1 locs ht hvm hw hB hz1 hk1 hS => ?_)
    obtain ⟨x6, f7⟩ := u
    obtain ⟨hP1, hK1, hD1⟩ := hB
    rw [ht] at hP1
    obtain ⟨hP, hD⟩ := qad (wr := [(jaT, .inl (cyI, 68, .inl jb2))]) (w1 := (qaQg a0 x6 jaQ jaD ja7 jby jbe jaM jaY jap jaK jal jam jax jao ja6 jaV ja8 jae jag jaf ja0 jaC jaP jaw jaI jaZ jaG jaS jan jaU jaE jar jaL jah jaB jaa jaz jaH jab jaT z0_s jaq jai jaO jaA jat jau jav jaj jas jaJ jak jad jay jac jaQ cyI f7)) (wn := (qsM a0 x6 jaQ jaD ja7 jby jbe jaM jaY jap jaK jal jam jax jao ja6 jaV ja8 jae jag jaf ja0 jaC jaP jaw jaI jaZ jaG jaS jan jaU jaE jar jaL jah jaB jaa jaz jaH jab jaT z0_s jaq jai jaO jaA jat jau jav jaj jas jaJ jak jad jay jac jaQ cyI f7 jaT cyI jb2)) hP hD [0, 1] [2] [1, 2, 0] hCc rfl (by decide +kernel) (by decide +kernel) (by decide +kernel) rfl hk1 hFc hP1 hD1
    generalize H1 = H at hP hS ⊢
    refine lv_if_ne (tgt := 31) hx hb (qaa qgp 0 rfl) (by decide) (fun c9 => ?_) (fun c9 => ?_)
    · have hw := hw.1 c9
      refine lv_iconst (v := 0) hx hb (qaa qgp 3 rfl) (by decide) ?_
      refine lv_istore_n (lv' := [(3, .int 0), (0, .ref a0), (1, .int p1), (2, .int p2)]) hx hb (qaa qgp 4 rfl) rfl hl (by decide) rfl (fun ls hl => ?_)
      refine lv_iconst (v := 0) hx hb (qaa qgp 5 rfl) (by decide) ?_
      refine lv_istore (lv' := [(4, .int 0), (3, .int 0), (0, .ref a0), (1, .int p1), (2, .int p2)]) hx hb (qaa qgp 6 rfl) hl (by decide) rfl (fun ls hl => ?_)
      obtain ⟨n9, hw⟩ := hw
      exact qaJK dC dI cyB cyI cyJ cyP a0 jaQ jaT jaD ja7 jby jbe jaM jaY jap jaK jal jam jax jao ja6 jaV ja8 jae jag jaf ja0 jaP jaw jaI jaZ jaG jaS jan jaU jaE jar jaL jah jaB jaa jaz jaH jab z0_s jaq jai jaO jaA jat jau jav jaj jas jaJ jak jad jay jac jaC jb2 Q C0 n9 _ _ _ x6 f7 p1 p2 0 0 hP hD hS (lv_sub hl [2, 3, 4, 1, 0] rfl) hw
    · have hw := hw.2 c9
      refine lv_iconst (v := 0) hx hb (qaa qgp 1 rfl) (by decide) ?_
      exact ((W.iret (v := 0) hx hb hr (fun t ht hW => ⟨⟨0, (x6, f7), rfl, hw, by rw [ht]; exact hP, va_K.moved hW.alike hK, hD⟩, hS.F ht⟩) hS.2.2 (qaa qgp 2 rfl)))
theorem qv5 : ∀ w ∈ u_ws RX11 TX11 55, w ∈ wsX11_told := uiM qnz qfa (by decide +kernel)
theorem qarn : (.fieldLink RX11 166 "MarchHaresModel" "forms" "I" : Cond) ∈ wsX11_told := qnz 519 (by decide +kernel)
theorem qarR : (.fieldLink RX11 169 "MarchHaresModel" "hares" "I" : Cond) ∈ wsX11_told := qnz 520 (by decide +kernel)
theorem qauY : (.fieldLink RX11 172 "MarchHaresModel" "foxes" "I" : Cond) ∈ wsX11_told := qnz 521 (by decide +kernel)
theorem qat6 : (.fieldLink RX11 182 "MarchHaresModel" "books" "I" : Cond) ∈ wsX11_told := qnz 523 (by decide +kernel)
theorem qaqX : (.fieldLink RX11 191 "MarchHaresModel" "refusedSteps" "I" : Cond) ∈ wsX11_told := qnz 526 (by decide +kernel)
theorem qaK9 : (.fieldLink RX11 3 "MarchHaresModel" "thrown" "I" : Cond) ∈ wsX11_told := qnz 589 (by decide +kernel)
theorem qav2 : (.fieldLink RX11 71 "MarchHaresModel" "s" "[I" : Cond) ∈ wsX11_told := qnz 457 (by decide +kernel)
set_option maxHeartbeats 4000000 in
set_option maxRecDepth 100000 in
theorem q78 {p : Program} {l : Launch} {e : Env} {s : State} {m : MethodId} {args : Array Value} {below : List Frame} {meth : Method} {c : Code} {A : Nat → Prop} (dC : Nat → ClassId) (dI : Nat → Nat → Nat) (cyB cyI cyJ cyP : ClassId) (a0 jaQ jaT a0_s ja5 jbJ : Nat) (jaD ja7 jby jbe jaM jaY jap jaK jal jam jax jao jaV jae jag jaf jaw jaI jaZ jaG jaS jan jaU jaE jar jaL jah jaB jaz jaH jab jaq jai jaO jat jau jav jaj jas jaJ jak jad jay jac : Value) (jaN jaC jbw jcn jh9 : Int32) (jb2 jbv jcy : NI) (Q : Int32 → Int32 → NI → NI → Prop) (C0 : cfx p s m args meth c cX11_told (some .int) wsX11_told RX11 2 A (dC, dI) (kT cyB cyI cyJ cyP)) : ∀ (H : Heap) (locs : List Loc) (ls : Array Slot) (jbd : Int32) (ja9 f0_s : NI) (l1 : Int32), va_P (dC, dI) vwCl (qyh a0 jbd jaQ jaD ja7 jby jbe jaM jaY jap jaK jal jam jax jao ja5 jaV jbJ jae jag jaf jaN jaC jbw jaw jaI jaZ jaG jaS jan jaU jaE jar jaL jah jaB jcn jaz jaH jab jaT a0_s jaq jai jaO jh9 jat jau jav jaj jas jaJ jak jad jay jac jaQ cyI ja9 jaT cyI jb2 a0_s cyI f0_s ja5 cyI jbv jbJ cyI jcy) H → va_D A (qyh a0 jbd jaQ jaD ja7 jby jbe jaM jaY jap jaK jal jam jax jao ja5 jaV jbJ jae jag jaf jaN jaC jbw jaw jaI jaZ jaG jaS jan jaU jaE jar jaL jah jaB jcn jaz jaH jab jaT a0_s jaq jai jaO jh9 jat jau jav jaj jas jaJ jak jad jay jac jaQ cyI ja9 jaT cyI jb2 a0_s cyI f0_s ja5 cyI jbv jbJ cyI jcy) → va_S A s.heap H locs → lv_has ls 2 [(0, .ref a0), (1, .int l1)] → qUq jaN jaC jbw jcn jh9 jb2 jbv jcy Q jbd ja9 f0_s l1 → W p l e (headSpec wsX11_told ({ frames := 4, cells := 0, slots := 0, locals := 86 })).room s m args below meth c H locs 0 0 (MQ below (va_Qi (fun (r : Int32) (u : Int32 × NI × NI) => Q r u.1 u.2.1 u.2.2) (cB (dC, dI) (kT cyB cyI cyJ cyP) A (fun u : Int32 × NI × NI => ((qyh a0 u.1 jaQ jaD ja7 jby jbe jaM jaY jap jaK jal jam jax jao ja5 jaV jbJ jae jag jaf jaN jaC jbw jaw jaI jaZ jaG jaS jan jaU jaE jar jaL jah jaB jcn jaz jaH jab jaT a0_s jaq jai jaO jh9 jat jau jav jaj jas jaJ jak jad jay jac jaQ cyI u.2.1 jaT cyI jb2 a0_s cyI u.2.2 ja5 cyI jbv jbJ cyI jcy) : va_W))) A) args s 0 0 A) (F0 m 97 ls []) := by
  obtain ⟨hx, hb, hr, hts, hown, hlocks, hml, hA, hK, hNw⟩ := id C0
  intro H locs ls jbd ja9 f0_s l1 hP hD hS hl hw
  refine lv_aload_n hx hb (qaa qiI 4 rfl) rfl (lv_at hl 0 rfl) ?_
  refine lv_iload_n hx hb (qaa qiI 5 rfl) rfl (lv_at hl 1 rfl) ?_
  obtain ⟨hCc, hPc, hDc, hFc⟩ := qac (ws' := (qa53 a0 jbd jaQ jaD ja7 jby jbe jaM jaY jap jaK jal jam jax jao ja5 jaV jbJ jae jag jaf jaN jaC jbw jaw jaI jaZ jaG jaS jan jaU jaE jar jaL jah jaB jcn jaz jaH jab jaT a0_s jaq jai jaO jh9 jat jau jav jaj jas jaJ jak jad jay jac a0_s cyI f0_s ja5 cyI jbv jbJ cyI jcy)) hP hD hS hA [0, 3, 4, 5] (by decide +kernel) rfl
  refine va_calli (va_runV (As := [.int l1]) (rest := []) ⟨hx, hb, hml, hown, hts⟩ (qay7 l dC dI cyB cyI cyJ cyP a0 a0_s ja5 jbJ H.size (.int jbd) (.ref jaQ) (jaD) (ja7) (jby) (jbe) (jaM) (jaY) (jap) (jaK) (jal) (jam) (jax) (jao) (jaV) (jae) (jag) (jaf) (.int jaN) (jaw) (jaI) (jaZ) (jaG) (jaS) (jan) (jaU) (jaE) (jar) (jaL) (jah) (jaB) (.int jcn) (jaz) (jaH) (jab) (.ref jaT) (jaq) (jai) (jaO) (.int jh9) (jat) (jau) (jav) (jaj) (jas) (jaJ) (jak) (jad) (jay) (jac) jaC jbw f0_s jbv jcy l1 hw) (cwV 1 hts gX11_told_X11_bitsTold rfl rfl rfl (by decide +kernel) ⟨nbq rfl, nbq rfl⟩) ⟨qab, va_recv (q := (RX11, TX11, 55)) hK hPc (ci := 11) (q0 := 0) rfl rfl, qae hPc hK hDc hNw⟩ rfl rfl hl.1 rfl (lv_room (nbq rfl)) (qaa qiI 6 rfl) ⟨nbq rfl, nbq rfl⟩) hS (fun q _ h => hFc q h) hFc (fun r23 u t H1 locs ht hvm hw hB hz1 hk1 hS => ?_)
  obtain ⟨hP1, hK1, hD1⟩ := hB
  rw [ht] at hP1
  obtain ⟨hP, hD⟩ := qad (wr := (qa8N jaQ cyI ja9 jaT cyI jb2)) (w1 := (qa53 a0 jbd jaQ jaD ja7 jby jbe jaM jaY jap jaK jal jam jax jao ja5 jaV jbJ jae jag jaf jaN jaC jbw jaw jaI jaZ jaG jaS jan jaU jaE jar jaL jah jaB jcn jaz jaH jab jaT a0_s jaq jai jaO jh9 jat jau jav jaj jas jaJ jak jad jay jac a0_s cyI f0_s ja5 cyI jbv jbJ cyI jcy)) (wn := (qyh a0 jbd jaQ jaD ja7 jby jbe jaM jaY jap jaK jal jam jax jao ja5 jaV jbJ jae jag jaf jaN jaC jbw jaw jaI jaZ jaG jaS jan jaU jaE jar jaL jah jaB jcn jaz jaH jab jaT a0_s jaq jai jaO jh9 jat jau jav jaj jas jaJ jak jad jay jac jaQ cyI ja9 jaT cyI jb2 a0_s cyI f0_s ja5 cyI jbv jbJ cyI jcy)) hP hD [0, 3, 4, 5] [1, 2] [2, 0, 1, 3, 4, 5] hCc rfl (by decide +kernel) (by decide +kernel) (by decide +kernel) rfl hk1 hFc hP1 hD1
  generalize H1 = H at hP hS ⊢
  exact ((W.iret (v := r23) hx hb hr (fun t ht hW => ⟨⟨r23, (jbd, ja9, f0_s), rfl, hw, by rw [ht]; exact hP, va_K.moved hW.alike hK, hD⟩, hS.F ht⟩) hS.2.2 (qaa qiI 7 rfl)))
set_option maxHeartbeats 4000000 in
set_option maxRecDepth 100000 in
theorem qaWR (l : Launch) (dC : Nat → ClassId) (dI : Nat → Nat → Nat) (cyB cyI cyJ cyP : ClassId) (a0 jaQ jaT a0_s ja5 jbJ sz : Nat) (jaD ja7 jby jbe jaM jaY jap jaK jal jam jax jao jaV jae jag jaf jaw jaI jaZ jaG jaS jan jaU jaE jar jaL jah jaB jaz jaH jab jaq jai jaO jat jau jav jaj jas jaJ jak jad jay jac : Value) (jaN jaC jbw jcn jh9 : Int32) (jb2 jbv jcy : NI) (jbd : Int32) (ja9 f0_s : NI) (p1 : Int32) {Q : Int32 → Int32 → NI → NI → Prop} (hw : qabp jaN jaC jbw jcn jh9 jb2 jbv jcy jbd ja9 f0_s p1 Q) : Met l yX11_told wsX11_told ({ frames := 4, cells := 0, slots := 0, locals := 86 }) (va_Pc [.ref a0, .int p1] (cPc (dC, dI) (kT cyB cyI cyJ cyP) (qyh a0 jbd jaQ jaD ja7 jby jbe jaM jaY jap jaK jal jam jax jao ja5 jaV jbJ jae jag jaf jaN jaC jbw jaw jaI jaZ jaG jaS jan jaU jaE jar jaL jah jaB jcn jaz jaH jab jaT a0_s jaq jai jaO jh9 jat jau jav jaj jas jaJ jak jad jay jac jaQ cyI ja9 jaT cyI jb2 a0_s cyI f0_s ja5 cyI jbv jbJ cyI jcy) sz)) (va_Qi (fun (r : Int32) (u : Int32 × NI × NI) => Q r u.1 u.2.1 u.2.2) (cB (dC, dI) (kT cyB cyI cyJ cyP) (va_A (qyh a0 jbd jaQ jaD ja7 jby jbe jaM jaY jap jaK jal jam jax jao ja5 jaV jbJ jae jag jaf jaN jaC jbw jaw jaI jaZ jaG jaS jan jaU jaE jar jaL jah jaB jcn jaz jaH jab jaT a0_s jaq jai jaO jh9 jat jau jav jaj jas jaJ jak jad jay jac jaQ cyI ja9 jaT cyI jb2 a0_s cyI f0_s ja5 cyI jbv jbJ cyI jcy) sz) (fun u : Int32 × NI × NI => ((qyh a0 u.1 jaQ jaD ja7 jby jbe jaM jaY jap jaK jal jam jax jao ja5 jaV jbJ jae jag jaf jaN jaC jbw jaw jaI jaZ jaG jaS jan jaU jaE jar jaL jah jaB jcn jaz jaH jab jaT a0_s jaq jai jaO jh9 jat jau jav jaj jas jaJ jak jad jay jac jaQ cyI u.2.1 jaT cyI jb2 a0_s cyI u.2.2 ja5 cyI jbv jbJ cyI jcy) : va_W))) (va_A (qyh a0 jbd jaQ jaD ja7 jby jbe jaM jaY jap jaK jal jam jax jao ja5 jaV jbJ jae jag jaf jaN jaC jbw jaw jaI jaZ jaG jaS jan jaU jaE jar jaL jah jaB jcn jaz jaH jab jaT a0_s jaq jai jaO jh9 jat jau jav jaj jas jaJ jak jad jay jac jaQ cyI ja9 jaT cyI jb2 a0_s cyI f0_s ja5 cyI jbv jbJ cyI jcy) sz)) 0 0 (va_A (qyh a0 jbd jaQ jaD ja7 jby jbe jaM jaY jap jaK jal jam jax jao ja5 jaV jbJ jae jag jaf jaN jaC jbw jaw jaI jaZ jaG jaS jan jaU jaE jar jaL jah jaB jcn jaz jaH jab jaT a0_s jaq jai jaO jh9 jat jau jav jaj jas jaJ jak jad jay jac jaQ cyI ja9 jaT cyI jb2 a0_s cyI f0_s ja5 cyI jbv jbJ cyI jcy) sz) := by
  refine Met.ofW (cc := cX11_told) (maxL := 2) (ret := (some .int)) (by decide) rfl ?_
  intro p e s m args below meth c s₁ B hml hv
  obtain ⟨rfl, hsz, hP, hK, hD0, hNw⟩ := hv
  have hx := B.exec
  have hb := B.bytes
  have hr := B.returns
  have hts := atoms_spec (ws := wsX11_told) B.pre
  have hown : s.vm.findClass RX11 = some m.cls := findClass_of_methodNamed B.named
  have hlocks := B.notSynchronized
  subst hsz
  have hD := hD0.self (sz := s.heap.size)
  generalize hAe : va_A (qyh a0 jbd jaQ jaD ja7 jby jbe jaM jaY jap jaK jal jam jax jao ja5 jaV jbJ jae jag jaf jaN jaC jbw jaw jaI jaZ jaG jaS jan jaU jaE jar jaL jah jaB jcn jaz jaH jab jaT a0_s jaq jai jaO jh9 jat jau jav jaj jas jaJ jak jad jay jac jaQ cyI ja9 jaT cyI jb2 a0_s cyI f0_s ja5 cyI jbv jbJ cyI jcy) s.heap.size = A at hD ⊢
  have hA : ∀ q : Nat, s.heap.size ≤ q → A q := fun q h => by rw [← hAe]; exact Or.inr h
  have hS : va_S A s.heap s.heap [] := va_S.rf
  have hP : va_P (dC, dI) vwCl (qyh a0 jbd jaQ jaD ja7 jby jbe jaM jaY jap jaK jal jam jax jao ja5 jaV jbJ jae jag jaf jaN jaC jbw jaw jaI jaZ jaG jaS jan jaU jaE jar jaL jah jaB jcn jaz jaH jab jaT a0_s jaq jai jaO jh9 jat jau jav jaj jas jaJ jak jad jay jac jaQ cyI ja9 jaT cyI jb2 a0_s cyI f0_s ja5 cyI jbv jbJ cyI jcy) s.heap := hP
  have hl := lv_entry ([.ref a0, .int p1]) (n := 2) (nbq rfl)
  rw [lg_entry_eq]
  generalize (lg_sl ([.ref a0, .int p1]) ++ List.replicate (2 - (lg_sl ([.ref a0, .int p1])).length) Slot.unset).toArray = ls at hl ⊢
  have hl : lv_has ls 2 [(0, .ref a0), (1, .int p1)] := hl
  have C0 : cfx p s m _ meth c cX11_told (some .int) wsX11_told RX11 2 A (dC, dI) (kT cyB cyI cyJ cyP) := ⟨hx, hb, hr, hts, hown, hlocks, hml, hA, hK, hNw⟩
  clear hAe
  obtain ⟨H, hH⟩ : ∃ H, H = s.heap := ⟨_, rfl⟩
  rw [← hH] at hP ⊢
  have hS : va_S A s.heap H [] := by rw [hH]; exact va_S.rf
  have hS := hS
  refine lv_aload_n hx hb (qaa qmO 0 rfl) rfl (lv_at hl 0 rfl) ?_
  refine lv_iconst (v := 0) hx hb (qaa qmO 1 rfl) (by decide) ?_
  refine va_put (D := (dC, dI)) (ci := 11) (v := .int 0) (ty := .int) (C := RX11) (T := TX11) (N := 55) hx hb hts qv5 tyX11 tyX11_ok nmX11 hown hK hP hD hS 0 rfl rfl 0 (by decide) (hts _ qaK9) (fun _ h9 => h9) rfl (by decide +kernel) rfl rfl (nbq rfl) (qaa qmO 2 rfl) (fun H locs hP hD hS => ?_)
  have hP : va_P (dC, dI) vwCl (qyh a0 0 jaQ jaD ja7 jby jbe jaM jaY jap jaK jal jam jax jao ja5 jaV jbJ jae jag jaf jaN jaC jbw jaw jaI jaZ jaG jaS jan jaU jaE jar jaL jah jaB jcn jaz jaH jab jaT a0_s jaq jai jaO jh9 jat jau jav jaj jas jaJ jak jad jay jac jaQ cyI ja9 jaT cyI jb2 a0_s cyI f0_s ja5 cyI jbv jbJ cyI jcy) H := hP
  have hD : va_D A (qyh a0 0 jaQ jaD ja7 jby jbe jaM jaY jap jaK jal jam jax jao ja5 jaV jbJ jae jag jaf jaN jaC jbw jaw jaI jaZ jaG jaS jan jaU jaE jar jaL jah jaB jcn jaz jaH jab jaT a0_s jaq jai jaO jh9 jat jau jav jaj jas jaJ jak jad jay jac jaQ cyI ja9 jaT cyI jb2 a0_s cyI f0_s ja5 cyI jbv jbJ cyI jcy) := hD
  refine lv_aload_n hx hb (qaa qmO 3 rfl) rfl (lv_at hl 0 rfl) ?_
  refine lv_iload_n hx hb (qaa qmO 4 rfl) rfl (lv_at hl 1 rfl) ?_
  refine lv_iconst (v := 0) hx hb (qaa qmO 5 rfl) (by decide) ?_
  refine lv_bipush (v := 11) hx hb (qaa qmO 6 rfl) (by decide) ?_
  obtain ⟨hCc, hPc, hDc, hFc⟩ := qac (ws' := []) hP hD hS hA [] (by decide +kernel) rfl
  refine va_calli (va_runS (As := [.int p1, .int 0, .int 11]) (rest := [.ref a0]) ⟨hx, hb, hml, hown, hts⟩ (qbG l dC dI cyB cyI cyJ cyP H.size p1 0 11 hw) (va_cwS 3 hts gX11_told_X11_within rfl rfl rfl (by decide +kernel) ⟨nbq rfl, nbq rfl⟩) ⟨qab, qae hPc hK hDc hNw⟩ rfl rfl hl.1 rfl (lv_room (nbq rfl)) (qaa qmO 7 rfl) ⟨nbq rfl, nbq rfl⟩) hS (fun q _ h => hFc q h) hFc (fun r1 u t H1 locs ht hvm hw hB hz1 hk1 hS => ?_)
  obtain ⟨hP1, hK1, hD1⟩ := hB
  rw [ht] at hP1
  obtain ⟨hP, hD⟩ := qah (wr := (qyh a0 0 jaQ jaD ja7 jby jbe jaM jaY jap jaK jal jam jax jao ja5 jaV jbJ jae jag jaf jaN jaC jbw jaw jaI jaZ jaG jaS jan jaU jaE jar jaL jah jaB jcn jaz jaH jab jaT a0_s jaq jai jaO jh9 jat jau jav jaj jas jaJ jak jad jay jac jaQ cyI ja9 jaT cyI jb2 a0_s cyI f0_s ja5 cyI jbv jbJ cyI jcy)) (w1 := []) (wn := (qyh a0 0 jaQ jaD ja7 jby jbe jaM jaY jap jaK jal jam jax jao ja5 jaV jbJ jae jag jaf jaN jaC jbw jaw jaI jaZ jaG jaS jan jaU jaE jar jaL jah jaB jcn jaz jaH jab jaT a0_s jaq jai jaO jh9 jat jau jav jaj jas jaJ jak jad jay jac jaQ cyI ja9 jaT cyI jb2 a0_s cyI f0_s ja5 cyI jbv jbJ cyI jcy)) hP hD [] [0, 1, 2, 3, 4, 5] hCc rfl (by decide +kernel) (by decide +kernel) rfl hk1 hFc hP1 hD1
  generalize H1 = H at hP hS ⊢
  refine lv_iconst (v := 1) hx hb (qaa qmO 8 rfl) (by decide) ?_
  refine lv_iconst (v := 1) hx hb (qaa qmO 9 rfl) (by decide) ?_
  obtain ⟨hCc, hPc, hDc, hFc⟩ := qac (ws' := (qa9F a0 0 jaQ jaD ja7 jby jbe jaM jaY jap jaK jal jam jax jao ja5 jaV jbJ jae jag jaf jaN jaC jbw jaw jaI jaZ jaG jaS jan jaU jaE jar jaL jah jaB jcn jaz jaH jab jaT a0_s jaq jai jaO jh9 jat jau jav jaj jas jaJ jak jad jay jac jaQ cyI ja9)) hP hD hS hA [0, 1] (by decide +kernel) rfl
  refine va_calli (va_runV (As := [.int r1, .int 1, .int 1]) (rest := []) ⟨hx, hb, hml, hown, hts⟩ (qkE l dC dI cyB cyI cyJ cyP a0 jaQ H.size (jaD) (ja7) (jby) (jbe) (jaM) (jaY) (jap) (jaK) (jal) (jam) (jax) (jao) (.ref ja5) (jaV) (.ref jbJ) (jae) (jag) (jaf) (.int jaN) (.int jaC) (.int jbw) (jaw) (jaI) (jaZ) (jaG) (jaS) (jan) (jaU) (jaE) (jar) (jaL) (jah) (jaB) (.int jcn) (jaz) (jaH) (jab) (.ref jaT) (.ref a0_s) (jaq) (jai) (jaO) (.int jh9) (jat) (jau) (jav) (jaj) (jas) (jaJ) (jak) (jad) (jay) (jac) 0 ja9 r1 1 1 hw) (cwV 3 hts gX11_told_X11_may rfl rfl rfl (by decide +kernel) ⟨nbq rfl, nbq rfl⟩) ⟨qab, va_recv (q := (RX11, TX11, 55)) hK hPc (ci := 11) (q0 := 0) rfl rfl, qae hPc hK hDc hNw⟩ rfl rfl hl.1 rfl (lv_room (nbq rfl)) (qaa qmO 10 rfl) ⟨nbq rfl, nbq rfl⟩) hS (fun q _ h => hFc q h) hFc (fun r4 u t H1 locs ht hvm hw hB hz1 hk1 hS => ?_)
  obtain ⟨x2, f3⟩ := u
  obtain ⟨hP1, hK1, hD1⟩ := hB
  rw [ht] at hP1
  obtain ⟨hP, hD⟩ := qad (wr := [(jaT, .inl (cyI, 68, .inl jb2)), (a0_s, .inl (cyI, 68, .inl f0_s)), (ja5, .inl (cyI, 16, .inl jbv)), (jbJ, .inl (cyI, 8, .inl jcy))]) (w1 := (qa9F a0 x2 jaQ jaD ja7 jby jbe jaM jaY jap jaK jal jam jax jao ja5 jaV jbJ jae jag jaf jaN jaC jbw jaw jaI jaZ jaG jaS jan jaU jaE jar jaL jah jaB jcn jaz jaH jab jaT a0_s jaq jai jaO jh9 jat jau jav jaj jas jaJ jak jad jay jac jaQ cyI f3)) (wn := (qyh a0 x2 jaQ jaD ja7 jby jbe jaM jaY jap jaK jal jam jax jao ja5 jaV jbJ jae jag jaf jaN jaC jbw jaw jaI jaZ jaG jaS jan jaU jaE jar jaL jah jaB jcn jaz jaH jab jaT a0_s jaq jai jaO jh9 jat jau jav jaj jas jaJ jak jad jay jac jaQ cyI f3 jaT cyI jb2 a0_s cyI f0_s ja5 cyI jbv jbJ cyI jcy)) hP hD [0, 1] [2, 3, 4, 5] [4, 5, 0, 1, 2, 3] hCc rfl (by decide +kernel) (by decide +kernel) (by decide +kernel) rfl hk1 hFc hP1 hD1
  generalize H1 = H at hP hS ⊢
  refine lv_if_ne (tgt := 23) hx hb (qaa qmO 11 rfl) (by decide) (fun c5 => ?_) (fun c5 => ?_)
  · have hw := hw.1 c5
    refine lv_aload_n hx hb (qaa qmO 14 rfl) rfl (lv_at hl 0 rfl) ?_
    obtain ⟨hCc, hPc, hDc, hFc⟩ := qac (ws' := (qa8y a0 x2 jaQ jaD ja7 jby jbe jaM jaY jap jaK jal jam jax jao ja5 jaV jbJ jae jag jaf jaN jaC jbw jaw jaI jaZ jaG jaS jan jaU jaE jar jaL jah jaB jcn jaz jaH jab jaT a0_s jaq jai jaO jh9 jat jau jav jaj jas jaJ jak jad jay jac jaT cyI jb2 a0_s cyI f0_s)) hP hD hS hA [0, 2, 3] (by decide +kernel) rfl
    refine va_callv (va_runV (As := []) (rest := []) ⟨hx, hb, hml, hown, hts⟩ (qq7 l dC dI cyB cyI cyJ cyP a0 jaT a0_s H.size (.int x2) (.ref jaQ) (jaD) (ja7) (jby) (jbe) (jaM) (jaY) (jap) (jaK) (jal) (jam) (jax) (jao) (.ref ja5) (jaV) (.ref jbJ) (jae) (jag) (jaf) (.int jaN) (.int jaC) (.int jbw) (jaw) (jaI) (jaZ) (jaG) (jaS) (jan) (jaU) (jaE) (jar) (jaL) (jah) (jaB) (.int jcn) (jaz) (jaH) (jab) (jaq) (jai) (jaO) (.int jh9) (jat) (jau) (jav) (jaj) (jas) (jaJ) (jak) (jad) (jay) (jac) jb2 f0_s hw) (cwV 0 hts gX11_told_X11_take rfl rfl rfl (by decide +kernel) ⟨nbq rfl, nbq rfl⟩) ⟨qab, va_recv (q := (RX11, TX11, 55)) hK hPc (ci := 11) (q0 := 0) rfl rfl, qae hPc hK hDc hNw⟩ rfl rfl hl.1 rfl (lv_room (nbq rfl)) (qaa qmO 15 rfl) ⟨nbq rfl, nbq rfl⟩) hS (fun q _ h => hFc q h) hFc (fun u t H1 locs ht hvm hw hB hz1 hk1 hS => ?_)
    obtain ⟨f6, rfl⟩ : ∃ z, z = u := ⟨_, rfl⟩
    obtain ⟨hP1, hK1, hD1⟩ := hB
    rw [ht] at hP1
    obtain ⟨hP, hD⟩ := qad (wr := [(jaQ, .inl (cyI, 2, .inl f3)), (ja5, .inl (cyI, 16, .inl jbv)), (jbJ, .inl (cyI, 8, .inl jcy))]) (w1 := (qa8y a0 x2 jaQ jaD ja7 jby jbe jaM jaY jap jaK jal jam jax jao ja5 jaV jbJ jae jag jaf jaN jaC jbw jaw jaI jaZ jaG jaS jan jaU jaE jar jaL jah jaB jcn jaz jaH jab jaT a0_s jaq jai jaO jh9 jat jau jav jaj jas jaJ jak jad jay jac jaT cyI jb2 a0_s cyI f6)) (wn := (qyh a0 x2 jaQ jaD ja7 jby jbe jaM jaY jap jaK jal jam jax jao ja5 jaV jbJ jae jag jaf jaN jaC jbw jaw jaI jaZ jaG jaS jan jaU jaE jar jaL jah jaB jcn jaz jaH jab jaT a0_s jaq jai jaO jh9 jat jau jav jaj jas jaJ jak jad jay jac jaQ cyI f3 jaT cyI jb2 a0_s cyI f6 ja5 cyI jbv jbJ cyI jcy)) hP hD [0, 2, 3] [1, 4, 5] [3, 0, 4, 5, 1, 2] hCc rfl (by decide +kernel) (by decide +kernel) (by decide +kernel) rfl hk1 hFc hP1 hD1
    generalize H1 = H at hP hS ⊢
    refine lv_iload_n hx hb (qaa qkp 0 rfl) rfl (lv_at hl 1 rfl) ?_
    refine lv_iconst (v := 5) hx hb (qaa qkp 1 rfl) (by decide) ?_
    refine lv_icmp_ge (tgt := 85) hx hb (qaa qkp 2 rfl) (by decide) (fun c7 => ?_) (fun c7 => ?_)
    · have hw := hw.1 c7
      refine lv_iload_n hx hb (qaa qdO 14 rfl) rfl (lv_at hl 1 rfl) ?_
      refine lv_bipush (v := 6) hx hb (qaa qdO 15 rfl) (by decide) ?_
      refine lv_icmp_eq (tgt := 97) hx hb (qaa qiI 0 rfl) (by decide) (fun c8 => ?_) (fun c8 => ?_)
      · have hw := hw.1 c8
        exact q78 dC dI cyB cyI cyJ cyP a0 jaQ jaT a0_s ja5 jbJ jaD ja7 jby jbe jaM jaY jap jaK jal jam jax jao jaV jae jag jaf jaw jaI jaZ jaG jaS jan jaU jaE jar jaL jah jaB jaz jaH jab jaq jai jaO jat jau jav jaj jas jaJ jak jad jay jac jaN jaC jbw jcn jh9 jb2 jbv jcy Q C0 _ _ _ x2 f3 f6 p1 hP hD hS (lv_sub hl [0, 1] rfl) hw
      · have hw := hw.2 c8
        refine lv_iload_n hx hb (qaa qiI 1 rfl) rfl (lv_at hl 1 rfl) ?_
        refine lv_bipush (v := 11) hx hb (qaa qiI 2 rfl) (by decide) ?_
        refine lv_icmp_ne (tgt := 103) hx hb (qaa qiI 3 rfl) (by decide) (fun c9 => ?_) (fun c9 => ?_)
        · have hw := hw.1 c9
          refine lv_iload_n hx hb (qaa qiI 8 rfl) rfl (lv_at hl 1 rfl) ?_
          refine lv_iconst (v := 5) hx hb (qaa qiI 9 rfl) (by decide) ?_
          refine lv_icmp_ne (tgt := 115) hx hb (qaa qiI 10 rfl) (by decide) (fun c10 => ?_) (fun c10 => ?_)
          · have hw := hw.1 c10
            refine lv_iload_n hx hb (qaa qiI 14 rfl) rfl (lv_at hl 1 rfl) ?_
            refine lv_bipush (v := 7) hx hb (qaa qiI 15 rfl) (by decide) ?_
            refine lv_icmp_ne (tgt := 128) hx hb (qaa qgK 0 rfl) (by decide) (fun c11 => ?_) (fun c11 => ?_)
            · have hw := hw.1 c11
              refine lv_iload_n hx hb (qaa qgK 4 rfl) rfl (lv_at hl 1 rfl) ?_
              refine lv_bipush (v := 8) hx hb (qaa qgK 5 rfl) (by decide) ?_
              refine lv_icmp_ne (tgt := 141) hx hb (qaa qgK 6 rfl) (by decide) (fun c12 => ?_) (fun c12 => ?_)
              · have hw := hw.1 c12
                refine lv_iload_n hx hb (qaa qgK 10 rfl) rfl (lv_at hl 1 rfl) ?_
                refine lv_bipush (v := 9) hx hb (qaa qgK 11 rfl) (by decide) ?_
                refine lv_icmp_ne (tgt := 154) hx hb (qaa qgK 12 rfl) (by decide) (fun c13 => ?_) (fun c13 => ?_)
                · have hw := hw.1 c13
                  refine lv_aload_n hx hb (qaa qv3 0 rfl) rfl (lv_at hl 0 rfl) ?_
                  refine va_get (D := (dC, dI)) (ci := 11) (v := .int jcn) (C := RX11) (T := TX11) (N := 55) hx hb hts qv5 hown hK hP 0 rfl rfl 35 (by decide) (hts _ qaqX) (fun _ h9 => h9) rfl (qaa qv3 1 rfl) ?_
                  exact ((W.iret (v := jcn) hx hb hr (fun t ht hW => ⟨⟨jcn, (x2, f3, f6), rfl, hw, by rw [ht]; exact hP, va_K.moved hW.alike hK, hD⟩, hS.F ht⟩) hS.2.2 (qaa qv3 2 rfl)))
                · have hw := hw.2 c13
                  refine lv_aload_n hx hb (qaa qgK 13 rfl) rfl (lv_at hl 0 rfl) ?_
                  refine va_get (D := (dC, dI)) (ci := 11) (v := .int jh9) (C := RX11) (T := TX11) (N := 55) hx hb hts qv5 hown hK hP 0 rfl rfl 44 (by decide) (hts _ qat6) (fun _ h9 => h9) rfl (qaa qgK 14 rfl) ?_
                  refine lv_goto (tgt := 158) hx hb (qaa qgK 15 rfl) (by decide) ?_
                  exact ((W.iret (v := jh9) hx hb hr (fun t ht hW => ⟨⟨jh9, (x2, f3, f6), rfl, hw, by rw [ht]; exact hP, va_K.moved hW.alike hK, hD⟩, hS.F ht⟩) hS.2.2 (qaa qv3 2 rfl)))
              · have hw := hw.2 c12
                refine lv_aload_n hx hb (qaa qgK 7 rfl) rfl (lv_at hl 0 rfl) ?_
                obtain ⟨hCc, hPc, hDc, hFc⟩ := qac (ws' := (qaNN a0 x2 jaQ jaD ja7 jby jbe jaM jaY jap jaK jal jam jax jao ja5 jaV jbJ jae jag jaf jaN jaC jbw jaw jaI jaZ jaG jaS jan jaU jaE jar jaL jah jaB jcn jaz jaH jab jaT a0_s jaq jai jaO jh9 jat jau jav jaj jas jaJ jak jad jay jac a0_s cyI f6)) hP hD hS hA [0, 3] (by decide +kernel) rfl
                refine va_calli (va_runV (As := []) (rest := []) ⟨hx, hb, hml, hown, hts⟩ (q4j l dC dI cyB cyI cyJ cyP a0 a0_s H.size (.int x2) (.ref jaQ) (jaD) (ja7) (jby) (jbe) (jaM) (jaY) (jap) (jaK) (jal) (jam) (jax) (jao) (.ref ja5) (jaV) (.ref jbJ) (jae) (jag) (jaf) (.int jaN) (.int jaC) (.int jbw) (jaw) (jaI) (jaZ) (jaG) (jaS) (jan) (jaU) (jaE) (jar) (jaL) (jah) (jaB) (.int jcn) (jaz) (jaH) (jab) (.ref jaT) (jaq) (jai) (jaO) (.int jh9) (jat) (jau) (jav) (jaj) (jas) (jaJ) (jak) (jad) (jay) (jac) f6 hw) (cwV 0 hts gX11_told_X11_debtsNow rfl rfl rfl (by decide +kernel) ⟨nbq rfl, nbq rfl⟩) ⟨qab, va_recv (q := (RX11, TX11, 55)) hK hPc (ci := 11) (q0 := 0) rfl rfl, qae hPc hK hDc hNw⟩ rfl rfl hl.1 rfl (lv_room (nbq rfl)) (qaa qgK 8 rfl) ⟨nbq rfl, nbq rfl⟩) hS (fun q _ h => hFc q h) hFc (fun r14 u t H1 locs ht hvm hw hB hz1 hk1 hS => ?_)
                obtain ⟨hP1, hK1, hD1⟩ := hB
                rw [ht] at hP1
                obtain ⟨hP, hD⟩ := qad (wr := (qa8M jaQ cyI f3 jaT cyI jb2 ja5 cyI jbv jbJ cyI jcy)) (w1 := (qaNN a0 x2 jaQ jaD ja7 jby jbe jaM jaY jap jaK jal jam jax jao ja5 jaV jbJ jae jag jaf jaN jaC jbw jaw jaI jaZ jaG jaS jan jaU jaE jar jaL jah jaB jcn jaz jaH jab jaT a0_s jaq jai jaO jh9 jat jau jav jaj jas jaJ jak jad jay jac a0_s cyI f6)) (wn := (qyh a0 x2 jaQ jaD ja7 jby jbe jaM jaY jap jaK jal jam jax jao ja5 jaV jbJ jae jag jaf jaN jaC jbw jaw jaI jaZ jaG jaS jan jaU jaE jar jaL jah jaB jcn jaz jaH jab jaT a0_s jaq jai jaO jh9 jat jau jav jaj jas jaJ jak jad jay jac jaQ cyI f3 jaT cyI jb2 a0_s cyI f6 ja5 cyI jbv jbJ cyI jcy)) hP hD [0, 3] [1, 2, 4, 5] [4, 0, 1, 5, 2, 3] hCc rfl (by decide +kernel) (by decide +kernel) (by decide +kernel) rfl hk1 hFc hP1 hD1
                generalize H1 = H at hP hS ⊢
                refine lv_goto (tgt := 158) hx hb (qaa qgK 9 rfl) (by decide) ?_
                exact ((W.iret (v := r14) hx hb hr (fun t ht hW => ⟨⟨r14, (x2, f3, f6), rfl, hw, by rw [ht]; exact hP, va_K.moved hW.alike hK, hD⟩, hS.F ht⟩) hS.2.2 (qaa qv3 2 rfl)))
            · have hw := hw.2 c11
              refine lv_aload_n hx hb (qaa qgK 1 rfl) rfl (lv_at hl 0 rfl) ?_
              obtain ⟨hCc, hPc, hDc, hFc⟩ := qac (ws' := (qa9Q a0 x2 jaQ jaD ja7 jby jbe jaM jaY jap jaK jal jam jax jao ja5 jaV jbJ jae jag jaf jaN jaC jbw jaw jaI jaZ jaG jaS jan jaU jaE jar jaL jah jaB jcn jaz jaH jab jaT a0_s jaq jai jaO jh9 jat jau jav jaj jas jaJ jak jad jay jac ja5 cyI jbv jbJ cyI jcy)) hP hD hS hA [0, 4, 5] (by decide +kernel) rfl
              refine va_calli (va_runV (As := []) (rest := []) ⟨hx, hb, hml, hown, hts⟩ (qZW l dC dI cyB cyI cyJ cyP a0 ja5 jbJ H.size (.int x2) (.ref jaQ) (jaD) (ja7) (jby) (jbe) (jaM) (jaY) (jap) (jaK) (jal) (jam) (jax) (jao) (jaV) (jae) (jag) (jaf) (.int jaC) (jaw) (jaI) (jaZ) (jaG) (jaS) (jan) (jaU) (jaE) (jar) (jaL) (jah) (jaB) (.int jcn) (jaz) (jaH) (jab) (.ref jaT) (.ref a0_s) (jaq) (jai) (jaO) (.int jh9) (jat) (jau) (jav) (jaj) (jas) (jaJ) (jak) (jad) (jay) (jac) jaN jbw jbv jcy hw) (cwV 0 hts gX11_told_X11_safeForms rfl rfl rfl (by decide +kernel) ⟨nbq rfl, nbq rfl⟩) ⟨qab, va_recv (q := (RX11, TX11, 55)) hK hPc (ci := 11) (q0 := 0) rfl rfl, qae hPc hK hDc hNw⟩ rfl rfl hl.1 rfl (lv_room (nbq rfl)) (qaa qgK 2 rfl) ⟨nbq rfl, nbq rfl⟩) hS (fun q _ h => hFc q h) hFc (fun r15 u t H1 locs ht hvm hw hB hz1 hk1 hS => ?_)
              obtain ⟨hP1, hK1, hD1⟩ := hB
              rw [ht] at hP1
              obtain ⟨hP, hD⟩ := qad (wr := [(jaQ, .inl (cyI, 2, .inl f3)), (jaT, .inl (cyI, 68, .inl jb2)), (a0_s, .inl (cyI, 68, .inl f6))]) (w1 := (qa9Q a0 x2 jaQ jaD ja7 jby jbe jaM jaY jap jaK jal jam jax jao ja5 jaV jbJ jae jag jaf jaN jaC jbw jaw jaI jaZ jaG jaS jan jaU jaE jar jaL jah jaB jcn jaz jaH jab jaT a0_s jaq jai jaO jh9 jat jau jav jaj jas jaJ jak jad jay jac ja5 cyI jbv jbJ cyI jcy)) (wn := (qyh a0 x2 jaQ jaD ja7 jby jbe jaM jaY jap jaK jal jam jax jao ja5 jaV jbJ jae jag jaf jaN jaC jbw jaw jaI jaZ jaG jaS jan jaU jaE jar jaL jah jaB jcn jaz jaH jab jaT a0_s jaq jai jaO jh9 jat jau jav jaj jas jaJ jak jad jay jac jaQ cyI f3 jaT cyI jb2 a0_s cyI f6 ja5 cyI jbv jbJ cyI jcy)) hP hD [0, 4, 5] [1, 2, 3] [3, 0, 1, 2, 4, 5] hCc rfl (by decide +kernel) (by decide +kernel) (by decide +kernel) rfl hk1 hFc hP1 hD1
              generalize H1 = H at hP hS ⊢
              refine lv_goto (tgt := 158) hx hb (qaa qgK 3 rfl) (by decide) ?_
              exact ((W.iret (v := r15) hx hb hr (fun t ht hW => ⟨⟨r15, (x2, f3, f6), rfl, hw, by rw [ht]; exact hP, va_K.moved hW.alike hK, hD⟩, hS.F ht⟩) hS.2.2 (qaa qv3 2 rfl)))
          · have hw := hw.2 c10
            refine lv_aload_n hx hb (qaa qiI 11 rfl) rfl (lv_at hl 0 rfl) ?_
            obtain ⟨hCc, hPc, hDc, hFc⟩ := qac (ws' := (qaNN a0 x2 jaQ jaD ja7 jby jbe jaM jaY jap jaK jal jam jax jao ja5 jaV jbJ jae jag jaf jaN jaC jbw jaw jaI jaZ jaG jaS jan jaU jaE jar jaL jah jaB jcn jaz jaH jab jaT a0_s jaq jai jaO jh9 jat jau jav jaj jas jaJ jak jad jay jac a0_s cyI f6)) hP hD hS hA [0, 3] (by decide +kernel) rfl
            refine va_calli (va_runV (As := []) (rest := []) ⟨hx, hb, hml, hown, hts⟩ (qED l dC dI cyB cyI cyJ cyP a0 a0_s H.size (.int x2) (.ref jaQ) (jaD) (ja7) (jby) (jbe) (jaM) (jaY) (jap) (jaK) (jal) (jam) (jax) (jao) (.ref ja5) (jaV) (.ref jbJ) (jae) (jag) (jaf) (.int jaN) (.int jbw) (jaw) (jaI) (jaZ) (jaG) (jaS) (jan) (jaU) (jaE) (jar) (jaL) (jah) (jaB) (.int jcn) (jaz) (jaH) (jab) (.ref jaT) (jaq) (jai) (jaO) (.int jh9) (jat) (jau) (jav) (jaj) (jas) (jaJ) (jak) (jad) (jay) (jac) jaC f6 hw) (cwV 0 hts gX11_told_X11_caughtNow rfl rfl rfl (by decide +kernel) ⟨nbq rfl, nbq rfl⟩) ⟨qab, va_recv (q := (RX11, TX11, 55)) hK hPc (ci := 11) (q0 := 0) rfl rfl, qae hPc hK hDc hNw⟩ rfl rfl hl.1 rfl (lv_room (nbq rfl)) (qaa qiI 12 rfl) ⟨nbq rfl, nbq rfl⟩) hS (fun q _ h => hFc q h) hFc (fun r16 u t H1 locs ht hvm hw hB hz1 hk1 hS => ?_)
            obtain ⟨hP1, hK1, hD1⟩ := hB
            rw [ht] at hP1
            obtain ⟨hP, hD⟩ := qad (wr := (qa8M jaQ cyI f3 jaT cyI jb2 ja5 cyI jbv jbJ cyI jcy)) (w1 := (qaNN a0 x2 jaQ jaD ja7 jby jbe jaM jaY jap jaK jal jam jax jao ja5 jaV jbJ jae jag jaf jaN jaC jbw jaw jaI jaZ jaG jaS jan jaU jaE jar jaL jah jaB jcn jaz jaH jab jaT a0_s jaq jai jaO jh9 jat jau jav jaj jas jaJ jak jad jay jac a0_s cyI f6)) (wn := (qyh a0 x2 jaQ jaD ja7 jby jbe jaM jaY jap jaK jal jam jax jao ja5 jaV jbJ jae jag jaf jaN jaC jbw jaw jaI jaZ jaG jaS jan jaU jaE jar jaL jah jaB jcn jaz jaH jab jaT a0_s jaq jai jaO jh9 jat jau jav jaj jas jaJ jak jad jay jac jaQ cyI f3 jaT cyI jb2 a0_s cyI f6 ja5 cyI jbv jbJ cyI jcy)) hP hD [0, 3] [1, 2, 4, 5] [4, 0, 1, 5, 2, 3] hCc rfl (by decide +kernel) (by decide +kernel) (by decide +kernel) rfl hk1 hFc hP1 hD1
            generalize H1 = H at hP hS ⊢
            refine lv_goto (tgt := 158) hx hb (qaa qiI 13 rfl) (by decide) ?_
            exact ((W.iret (v := r16) hx hb hr (fun t ht hW => ⟨⟨r16, (x2, f3, f6), rfl, hw, by rw [ht]; exact hP, va_K.moved hW.alike hK, hD⟩, hS.F ht⟩) hS.2.2 (qaa qv3 2 rfl)))
        · have hw := hw.2 c9
          exact q78 dC dI cyB cyI cyJ cyP a0 jaQ jaT a0_s ja5 jbJ jaD ja7 jby jbe jaM jaY jap jaK jal jam jax jao jaV jae jag jaf jaw jaI jaZ jaG jaS jan jaU jaE jar jaL jah jaB jaz jaH jab jaq jai jaO jat jau jav jaj jas jaJ jak jad jay jac jaN jaC jbw jcn jh9 jb2 jbv jcy Q C0 _ _ _ x2 f3 f6 p1 hP hD hS (lv_sub hl [0, 1] rfl) hw
    · have hw := hw.2 c7
      refine lv_iload_n hx hb (qaa qkp 3 rfl) rfl (lv_at hl 1 rfl) ?_
      refine lv_if_ne (tgt := 43) hx hb (qaa qkp 4 rfl) (by decide) (fun c17 => ?_) (fun c17 => ?_)
      · have hw := hw.1 c17
        refine lv_iload_n hx hb (qaa qkp 8 rfl) rfl (lv_at hl 1 rfl) ?_
        refine lv_iconst (v := 1) hx hb (qaa qkp 9 rfl) (by decide) ?_
        refine lv_icmp_ne (tgt := 55) hx hb (qaa qkp 10 rfl) (by decide) (fun c18 => ?_) (fun c18 => ?_)
        · have hw := hw.1 c18
          refine lv_iload_n hx hb (qaa qkp 14 rfl) rfl (lv_at hl 1 rfl) ?_
          refine lv_iconst (v := 2) hx hb (qaa qkp 15 rfl) (by decide) ?_
          refine lv_icmp_ne (tgt := 67) hx hb (qaa qdO 0 rfl) (by decide) (fun c19 => ?_) (fun c19 => ?_)
          · have hw := hw.1 c19
            refine lv_aload_n hx hb (qaa qdO 4 rfl) rfl (lv_at hl 0 rfl) ?_
            refine va_get (D := (dC, dI)) (ci := 11) (v := .ref a0_s) (C := RX11) (T := TX11) (N := 55) hx hb hts qv5 hown hK hP 0 rfl rfl 40 (by decide) (hts _ qav2) (fun _ h9 => h9) rfl (qaa qdO 5 rfl) ?_
            refine lv_iload_n hx hb (qaa qdO 6 rfl) rfl (lv_at hl 1 rfl) ?_
            refine lv_iconst (v := 3) hx hb (qaa qdO 7 rfl) (by decide) ?_
            refine lv_icmp_ne (tgt := 81) hx hb (qaa qdO 8 rfl) (by decide) (fun c20 => ?_) (fun c20 => ?_)
            · have hw := hw.1 c20
              refine lv_bipush (v := 67) hx hb (qaa qdO 11 rfl) (by decide) ?_
              refine va_iald hx hb hK hP 3 1 rfl rfl (vin (by decide)) (qaa qdO 12 rfl) ?_
              refine lv_topi (fun x21 ex21 => ?_)
              have hw := hw x21 ex21
              exact ((W.iret (v := x21) hx hb hr (fun t ht hW => ⟨⟨x21, (x2, f3, f6), rfl, hw, by rw [ht]; exact hP, va_K.moved hW.alike hK, hD⟩, hS.F ht⟩) hS.2.2 (qaa qdO 13 rfl)))
            · have hw := hw.2 c20
              refine lv_bipush (v := 66) hx hb (qaa qdO 9 rfl) (by decide) ?_
              refine lv_goto (tgt := 83) hx hb (qaa qdO 10 rfl) (by decide) ?_
              refine va_iald hx hb hK hP 3 1 rfl rfl (vin (by decide)) (qaa qdO 12 rfl) ?_
              refine lv_topi (fun x22 ex22 => ?_)
              have hw := hw x22 ex22
              exact ((W.iret (v := x22) hx hb hr (fun t ht hW => ⟨⟨x22, (x2, f3, f6), rfl, hw, by rw [ht]; exact hP, va_K.moved hW.alike hK, hD⟩, hS.F ht⟩) hS.2.2 (qaa qdO 13 rfl)))
          · have hw := hw.2 c19
            refine lv_aload_n hx hb (qaa qdO 1 rfl) rfl (lv_at hl 0 rfl) ?_
            refine va_get (D := (dC, dI)) (ci := 11) (v := .int jbw) (C := RX11) (T := TX11) (N := 55) hx hb hts qv5 hown hK hP 0 rfl rfl 22 (by decide) (hts _ qauY) (fun _ h9 => h9) rfl (qaa qdO 2 rfl) ?_
            refine lv_goto (tgt := 84) hx hb (qaa qdO 3 rfl) (by decide) ?_
            exact ((W.iret (v := jbw) hx hb hr (fun t ht hW => ⟨⟨jbw, (x2, f3, f6), rfl, hw, by rw [ht]; exact hP, va_K.moved hW.alike hK, hD⟩, hS.F ht⟩) hS.2.2 (qaa qdO 13 rfl)))
        · have hw := hw.2 c18
          refine lv_aload_n hx hb (qaa qkp 11 rfl) rfl (lv_at hl 0 rfl) ?_
          refine va_get (D := (dC, dI)) (ci := 11) (v := .int jaC) (C := RX11) (T := TX11) (N := 55) hx hb hts qv5 hown hK hP 0 rfl rfl 21 (by decide) (hts _ qarR) (fun _ h9 => h9) rfl (qaa qkp 12 rfl) ?_
          refine lv_goto (tgt := 84) hx hb (qaa qkp 13 rfl) (by decide) ?_
          exact ((W.iret (v := jaC) hx hb hr (fun t ht hW => ⟨⟨jaC, (x2, f3, f6), rfl, hw, by rw [ht]; exact hP, va_K.moved hW.alike hK, hD⟩, hS.F ht⟩) hS.2.2 (qaa qdO 13 rfl)))
      · have hw := hw.2 c17
        refine lv_aload_n hx hb (qaa qkp 5 rfl) rfl (lv_at hl 0 rfl) ?_
        refine va_get (D := (dC, dI)) (ci := 11) (v := .int jaN) (C := RX11) (T := TX11) (N := 55) hx hb hts qv5 hown hK hP 0 rfl rfl 20 (by decide) (hts _ qarn) (fun _ h9 => h9) rfl (qaa qkp 6 rfl) ?_
        refine lv_goto (tgt := 84) hx hb (qaa qkp 7 rfl) (by decide) ?_
        exact ((W.iret (v := jaN) hx hb hr (fun t ht hW => ⟨⟨jaN, (x2, f3, f6), rfl, hw, by rw [ht]; exact hP, va_K.moved hW.alike hK, hD⟩, hS.F ht⟩) hS.2.2 (qaa qdO 13 rfl)))
  · have hw := hw.2 c5
    refine lv_iconst (v := 0) hx hb (qaa qmO 12 rfl) (by decide) ?_
    exact ((W.iret (v := 0) hx hb hr (fun t ht hW => ⟨⟨0, (x2, f3, f0_s), rfl, hw, by rw [ht]; exact hP, va_K.moved hW.alike hK, hD⟩, hS.F ht⟩) hS.2.2 (qaa qmO 13 rfl)))
theorem qsl : ∀ w ∈ u_ws RX11 TX11 55, w ∈ wsX11_undo := uiM qOA qfa (by decide +kernel)
theorem qz7 : (.fieldLink RX11 185 "MarchHaresModel" "works" "I" : Cond) ∈ wsX11_undo := qOA 524 (by decide +kernel)
theorem qap3 : (.fieldLink RX11 191 "MarchHaresModel" "refusedSteps" "I" : Cond) ∈ wsX11_undo := qOA 526 (by decide +kernel)
theorem qaHX : (.fieldLink RX11 3 "MarchHaresModel" "thrown" "I" : Cond) ∈ wsX11_undo := qOA 589 (by decide +kernel)
theorem qaAA : (.fieldLink RX11 68 "MarchHaresModel" "now" "[I" : Cond) ∈ wsX11_undo := qOA 456 (by decide +kernel)
theorem qaBP : (.fieldLink RX11 74 "MarchHaresModel" "past" "[I" : Cond) ∈ wsX11_undo := qOA 458 (by decide +kernel)
set_option maxHeartbeats 4000000 in
set_option maxRecDepth 100000 in
theorem qaIk {p : Program} {l : Launch} {e : Env} {s : State} {m : MethodId} {args : Array Value} {below : List Frame} {meth : Method} {c : Code} {A : Nat → Prop} (dC : Nat → ClassId) (dI : Nat → Nat → Nat) (cyB cyI cyJ cyP : ClassId) (a0 jaT jeG : Nat) (jaF jaD ja7 jby jbe jaM jaY jap jaK jal jam jax jao ja6 jaV ja8 jae jag jaf ja0 ja4 jaP jaw jaI jaZ jaG jaS jan jaU jaE jar jaL jah jaz jaH jab z0_s jai jaO jaA jat jau jav jaj jas jaJ jak jad jay jac : Value) (jlQ : NI) (Q : Int32 → Int32 → Int32 → Int32 → NI → Prop) (C0 : cfx p s m args meth c cX11_undo (some .int) wsX11_undo RX11 2 A (dC, dI) (kT cyB cyI cyJ cyP)) : ∀ (n : Nat) (H : Heap) (locs : List Loc) (ls : Array Slot) (jbd jhQ jcn : Int32) (jb2 : NI) (l1 : Int32), va_P (dC, dI) vwCl (qAK a0 jbd jaF jaD ja7 jby jbe jaM jaY jap jaK jal jam jax jao ja6 jaV ja8 jae jag jaf ja0 ja4 jaP jaw jaI jaZ jaG jaS jan jaU jaE jar jaL jah jhQ jcn jaz jaH jab jaT z0_s jeG jai jaO jaA jat jau jav jaj jas jaJ jak jad jay jac jeG cyI jlQ jaT cyI jb2) H → va_D A (qAK a0 jbd jaF jaD ja7 jby jbe jaM jaY jap jaK jal jam jax jao ja6 jaV ja8 jae jag jaf ja0 ja4 jaP jaw jaI jaZ jaG jaS jan jaU jaE jar jaL jah jhQ jcn jaz jaH jab jaT z0_s jeG jai jaO jaA jat jau jav jaj jas jaJ jak jad jay jac jeG cyI jlQ jaT cyI jb2) → va_S A s.heap H locs → lv_has ls 2 [(0, .ref a0), (1, .int l1)] → qKE jlQ Q n jbd jhQ jcn jb2 l1 → W p l e (headSpec wsX11_undo ({ frames := 0, cells := 0, slots := 0, locals := 0 })).room s m args below meth c H locs 0 0 (MQ below (va_Qi (fun (r : Int32) (u : Int32 × Int32 × Int32 × NI) => Q r u.1 u.2.1 u.2.2.1 u.2.2.2) (cB (dC, dI) (kT cyB cyI cyJ cyP) A (fun u : Int32 × Int32 × Int32 × NI => ((qAK a0 u.1 jaF jaD ja7 jby jbe jaM jaY jap jaK jal jam jax jao ja6 jaV ja8 jae jag jaf ja0 ja4 jaP jaw jaI jaZ jaG jaS jan jaU jaE jar jaL jah u.2.1 u.2.2.1 jaz jaH jab jaT z0_s jeG jai jaO jaA jat jau jav jaj jas jaJ jak jad jay jac jeG cyI jlQ jaT cyI u.2.2.2) : va_W))) A) args s 0 0 A) (F0 m 26 ls []) := by
  obtain ⟨hx, hb, hr, hts, hown, hlocks, hml, hA, hK, hNw⟩ := id C0
  intro n
  induction n with
  | zero => intro H locs ls jbd jhQ jcn jb2 l1 hP hD hS hl hw; exact False.elim hw
  | succ n ih =>
    intro H locs ls jbd jhQ jcn jb2 l1 hP hD hS hl hw
    refine lv_iload_n hx hb (qaa qjL 0 rfl) rfl (lv_at hl 1 rfl) ?_
    refine lv_bipush (v := 68) hx hb (qaa qjL 1 rfl) (by decide) ?_
    refine lv_icmp_ge (tgt := 58) hx hb (qaa qjL 2 rfl) (by decide) (fun c3 => ?_) (fun c3 => ?_)
    · have hw := hw.1 c3
      refine lv_aload_n hx hb (qaa qvg 2 rfl) rfl (lv_at hl 0 rfl) ?_
      refine lv_iconst (v := 0) hx hb (qaa qvg 3 rfl) (by decide) ?_
      refine va_put (D := (dC, dI)) (ci := 11) (v := .int 0) (ty := .int) (C := RX11) (T := TX11) (N := 55) hx hb hts qsl tyX11 tyX11_ok nmX11 hown hK hP hD hS 0 rfl rfl 35 (by decide) (hts _ qap3) (fun _ h9 => h9) rfl (by decide +kernel) rfl rfl (nbq rfl) (qaa qvg 4 rfl) (fun H locs hP hD hS => ?_)
      have hP : va_P (dC, dI) vwCl (qAK a0 jbd jaF jaD ja7 jby jbe jaM jaY jap jaK jal jam jax jao ja6 jaV ja8 jae jag jaf ja0 ja4 jaP jaw jaI jaZ jaG jaS jan jaU jaE jar jaL jah jhQ 0 jaz jaH jab jaT z0_s jeG jai jaO jaA jat jau jav jaj jas jaJ jak jad jay jac jeG cyI jlQ jaT cyI jb2) H := hP
      have hD : va_D A (qAK a0 jbd jaF jaD ja7 jby jbe jaM jaY jap jaK jal jam jax jao ja6 jaV ja8 jae jag jaf ja0 ja4 jaP jaw jaI jaZ jaG jaS jan jaU jaE jar jaL jah jhQ 0 jaz jaH jab jaT z0_s jeG jai jaO jaA jat jau jav jaj jas jaJ jak jad jay jac jeG cyI jlQ jaT cyI jb2) := hD
      refine lv_aload_n hx hb (qaa qvg 5 rfl) rfl (lv_at hl 0 rfl) ?_
      refine va_get (D := (dC, dI)) (ci := 11) (v := .int jhQ) (C := RX11) (T := TX11) (N := 55) hx hb hts qsl hown hK hP 0 rfl rfl 34 (by decide) (hts _ qz7) (fun _ h9 => h9) rfl (qaa qvg 6 rfl) ?_
      exact ((W.iret (v := jhQ) hx hb hr (fun t ht hW => ⟨⟨jhQ, (jbd, jhQ, 0, jb2), rfl, hw, by rw [ht]; exact hP, va_K.moved hW.alike hK, hD⟩, hS.F ht⟩) hS.2.2 (qaa qvg 7 rfl)))
    · have hw := hw.2 c3
      refine lv_aload_n hx hb (qaa qjL 3 rfl) rfl (lv_at hl 0 rfl) ?_
      refine va_get (D := (dC, dI)) (ci := 11) (v := .ref jaT) (C := RX11) (T := TX11) (N := 55) hx hb hts qsl hown hK hP 0 rfl rfl 39 (by decide) (hts _ qaAA) (fun _ h9 => h9) rfl (qaa qjL 4 rfl) ?_
      refine lv_iload_n hx hb (qaa qjL 5 rfl) rfl (lv_at hl 1 rfl) ?_
      refine lv_aload_n hx hb (qaa qjL 6 rfl) rfl (lv_at hl 0 rfl) ?_
      refine va_get (D := (dC, dI)) (ci := 11) (v := .ref jeG) (C := RX11) (T := TX11) (N := 55) hx hb hts qsl hown hK hP 0 rfl rfl 41 (by decide) (hts _ qaBP) (fun _ h9 => h9) rfl (qaa qjL 7 rfl) ?_
      refine lv_bipush (v := 68) hx hb (qaa qjL 8 rfl) (by decide) ?_
      refine lv_aload_n hx hb (qaa qjL 9 rfl) rfl (lv_at hl 0 rfl) ?_
      refine va_get (D := (dC, dI)) (ci := 11) (v := .int jhQ) (C := RX11) (T := TX11) (N := 55) hx hb hts qsl hown hK hP 0 rfl rfl 34 (by decide) (hts _ qz7) (fun _ h9 => h9) rfl (qaa qjL 10 rfl) ?_
      refine lv_imul hx hb (qaa qjL 11 rfl) ?_
      refine lv_topi (fun x4 ex4 => ?_)
      have hw := hw x4 ex4
      refine lv_iload_n hx hb (qaa qjL 12 rfl) rfl (lv_at hl 1 rfl) ?_
      refine lv_iadd hx hb (qaa qjL 13 rfl) ?_
      refine lv_topi (fun x5 ex5 => ?_)
      have hw := hw x5 ex5
      obtain ⟨hi9, hw⟩ := hw
      refine va_iald hx hb hK hP 1 1 rfl rfl hi9 (qaa qjL 14 rfl) ?_
      refine lv_topi (fun x6 ex6 => ?_)
      have hw := hw x6 ex6
      obtain ⟨hi9, hw⟩ := hw
      refine va_iast hx hb hK hP hD hS 2 1 rfl rfl hi9 (qaa qjL 15 rfl) (fun H locs hP hD hS => ?_)
      obtain ⟨f7, ef7⟩ : ∃ y : NI, y = upd jb2 l1.toNatClampNeg x6 := ⟨_, rfl⟩
      have hw := hw f7 ef7
      have hP : va_P (dC, dI) vwCl (qAK a0 jbd jaF jaD ja7 jby jbe jaM jaY jap jaK jal jam jax jao ja6 jaV ja8 jae jag jaf ja0 ja4 jaP jaw jaI jaZ jaG jaS jan jaU jaE jar jaL jah jhQ jcn jaz jaH jab jaT z0_s jeG jai jaO jaA jat jau jav jaj jas jaJ jak jad jay jac jeG cyI jlQ jaT cyI f7) H := by rw [ef7]; exact hP
      have hD : va_D A (qAK a0 jbd jaF jaD ja7 jby jbe jaM jaY jap jaK jal jam jax jao ja6 jaV ja8 jae jag jaf ja0 ja4 jaP jaw jaI jaZ jaG jaS jan jaU jaE jar jaL jah jhQ jcn jaz jaH jab jaT z0_s jeG jai jaO jaA jat jau jav jaj jas jaJ jak jad jay jac jeG cyI jlQ jaT cyI f7) := by rw [ef7]; exact hD
      obtain ⟨x8, ex8⟩ : ∃ y : Int32, y = l1 + 1 := ⟨_, rfl⟩
      have hw := hw x8 ex8
      refine lv_iinc (v := x8) (lv' := [(1, .int x8), (0, .ref a0)]) hx hb (qaa qvg 0 rfl) hl (k := 1) rfl (by rw [ex8]; rfl) (by decide) rfl (fun ls hl => ?_)
      refine lv_goto (tgt := 26) hx hb (qaa qvg 1 rfl) (by decide) ?_
      exact ih _ _ _ jbd jhQ jcn f7 x8 hP hD hS (lv_sub hl [1, 0] rfl) hw
set_option maxHeartbeats 4000000 in
set_option maxRecDepth 100000 in
theorem qaXg (l : Launch) (dC : Nat → ClassId) (dI : Nat → Nat → Nat) (cyB cyI cyJ cyP : ClassId) (a0 jaT jeG sz : Nat) (jaF jaD ja7 jby jbe jaM jaY jap jaK jal jam jax jao ja6 jaV ja8 jae jag jaf ja0 ja4 jaP jaw jaI jaZ jaG jaS jan jaU jaE jar jaL jah jaz jaH jab z0_s jai jaO jaA jat jau jav jaj jas jaJ jak jad jay jac : Value) (jlQ : NI) (jbd jhQ jcn : Int32) (jb2 : NI) {Q : Int32 → Int32 → Int32 → Int32 → NI → Prop} (hw : qXG jlQ jbd jhQ jcn jb2 Q) : Met l yX11_undo wsX11_undo ({ frames := 0, cells := 0, slots := 0, locals := 0 }) (va_Pc [.ref a0] (cPc (dC, dI) (kT cyB cyI cyJ cyP) (qAK a0 jbd jaF jaD ja7 jby jbe jaM jaY jap jaK jal jam jax jao ja6 jaV ja8 jae jag jaf ja0 ja4 jaP jaw jaI jaZ jaG jaS jan jaU jaE jar jaL jah jhQ jcn jaz jaH jab jaT z0_s jeG jai jaO jaA jat jau jav jaj jas jaJ jak jad jay jac jeG cyI jlQ jaT cyI jb2) sz)) (va_Qi (fun (r : Int32) (u : Int32 × Int32 × Int32 × NI) => Q r u.1 u.2.1 u.2.2.1 u.2.2.2) (cB (dC, dI) (kT cyB cyI cyJ cyP) (va_A (qAK a0 jbd jaF jaD ja7 jby jbe jaM jaY jap jaK jal jam jax jao ja6 jaV ja8 jae jag jaf ja0 ja4 jaP jaw jaI jaZ jaG jaS jan jaU jaE jar jaL jah jhQ jcn jaz jaH jab jaT z0_s jeG jai jaO jaA jat jau jav jaj jas jaJ jak jad jay jac jeG cyI jlQ jaT cyI jb2) sz) (fun u : Int32 × Int32 × Int32 × NI => ((qAK a0 u.1 jaF jaD ja7 jby jbe jaM jaY jap jaK jal jam jax jao ja6 jaV ja8 jae jag jaf ja0 ja4 jaP jaw jaI jaZ jaG jaS jan jaU jaE jar jaL jah u.2.1 u.2.2.1 jaz jaH jab jaT z0_s jeG jai jaO jaA jat jau jav jaj jas jaJ jak jad jay jac jeG cyI jlQ jaT cyI u.2.2.2) : va_W))) (va_A (qAK a0 jbd jaF jaD ja7 jby jbe jaM jaY jap jaK jal jam jax jao ja6 jaV ja8 jae jag jaf ja0 ja4 jaP jaw jaI jaZ jaG jaS jan jaU jaE jar jaL jah jhQ jcn jaz jaH jab jaT z0_s jeG jai jaO jaA jat jau jav jaj jas jaJ jak jad jay jac jeG cyI jlQ jaT cyI jb2) sz)) 0 0 (va_A (qAK a0 jbd jaF jaD ja7 jby jbe jaM jaY jap jaK jal jam jax jao ja6 jaV ja8 jae jag jaf ja0 ja4 jaP jaw jaI jaZ jaG jaS jan jaU jaE jar jaL jah jhQ jcn jaz jaH jab jaT z0_s jeG jai jaO jaA jat jau jav jaj jas jaJ jak jad jay jac jeG cyI jlQ jaT cyI jb2) sz) := by
  refine Met.ofW (cc := cX11_undo) (maxL := 2) (ret := (some .int)) (by decide) rfl ?_
  intro p e s m args below meth c s₁ B hml hv
  obtain ⟨rfl, hsz, hP, hK, hD0, hNw⟩ := hv
  have hx := B.exec
  have hb := B.bytes
  have hr := B.returns
  have hts := atoms_spec (ws := wsX11_undo) B.pre
  have hown : s.vm.findClass RX11 = some m.cls := findClass_of_methodNamed B.named
  have hlocks := B.notSynchronized
  subst hsz
  have hD := hD0.self (sz := s.heap.size)
  generalize hAe : va_A (qAK a0 jbd jaF jaD ja7 jby jbe jaM jaY jap jaK jal jam jax jao ja6 jaV ja8 jae jag jaf ja0 ja4 jaP jaw jaI jaZ jaG jaS jan jaU jaE jar jaL jah jhQ jcn jaz jaH jab jaT z0_s jeG jai jaO jaA jat jau jav jaj jas jaJ jak jad jay jac jeG cyI jlQ jaT cyI jb2) s.heap.size = A at hD ⊢
  have hA : ∀ q : Nat, s.heap.size ≤ q → A q := fun q h => by rw [← hAe]; exact Or.inr h
  have hS : va_S A s.heap s.heap [] := va_S.rf
  have hP : va_P (dC, dI) vwCl (qAK a0 jbd jaF jaD ja7 jby jbe jaM jaY jap jaK jal jam jax jao ja6 jaV ja8 jae jag jaf ja0 ja4 jaP jaw jaI jaZ jaG jaS jan jaU jaE jar jaL jah jhQ jcn jaz jaH jab jaT z0_s jeG jai jaO jaA jat jau jav jaj jas jaJ jak jad jay jac jeG cyI jlQ jaT cyI jb2) s.heap := hP
  have hl := lv_entry ([.ref a0]) (n := 2) (nbq rfl)
  rw [lg_entry_eq]
  generalize (lg_sl ([.ref a0]) ++ List.replicate (2 - (lg_sl ([.ref a0])).length) Slot.unset).toArray = ls at hl ⊢
  have hl : lv_has ls 2 [(0, .ref a0)] := hl
  have C0 : cfx p s m _ meth c cX11_undo (some .int) wsX11_undo RX11 2 A (dC, dI) (kT cyB cyI cyJ cyP) := ⟨hx, hb, hr, hts, hown, hlocks, hml, hA, hK, hNw⟩
  clear hAe
  obtain ⟨H, hH⟩ : ∃ H, H = s.heap := ⟨_, rfl⟩
  rw [← hH] at hP ⊢
  have hS : va_S A s.heap H [] := by rw [hH]; exact va_S.rf
  have hS := hS
  refine lv_aload_n hx hb (qaa qmh 0 rfl) rfl (lv_at hl 0 rfl) ?_
  refine lv_iconst (v := 0) hx hb (qaa qmh 1 rfl) (by decide) ?_
  refine va_put (D := (dC, dI)) (ci := 11) (v := .int 0) (ty := .int) (C := RX11) (T := TX11) (N := 55) hx hb hts qsl tyX11 tyX11_ok nmX11 hown hK hP hD hS 0 rfl rfl 0 (by decide) (hts _ qaHX) (fun _ h9 => h9) rfl (by decide +kernel) rfl rfl (nbq rfl) (qaa qmh 2 rfl) (fun H locs hP hD hS => ?_)
  have hP : va_P (dC, dI) vwCl (qAK a0 0 jaF jaD ja7 jby jbe jaM jaY jap jaK jal jam jax jao ja6 jaV ja8 jae jag jaf ja0 ja4 jaP jaw jaI jaZ jaG jaS jan jaU jaE jar jaL jah jhQ jcn jaz jaH jab jaT z0_s jeG jai jaO jaA jat jau jav jaj jas jaJ jak jad jay jac jeG cyI jlQ jaT cyI jb2) H := hP
  have hD : va_D A (qAK a0 0 jaF jaD ja7 jby jbe jaM jaY jap jaK jal jam jax jao ja6 jaV ja8 jae jag jaf ja0 ja4 jaP jaw jaI jaZ jaG jaS jan jaU jaE jar jaL jah jhQ jcn jaz jaH jab jaT z0_s jeG jai jaO jaA jat jau jav jaj jas jaJ jak jad jay jac jeG cyI jlQ jaT cyI jb2) := hD
  refine lv_aload_n hx hb (qaa qmh 3 rfl) rfl (lv_at hl 0 rfl) ?_
  refine va_get (D := (dC, dI)) (ci := 11) (v := .int jhQ) (C := RX11) (T := TX11) (N := 55) hx hb hts qsl hown hK hP 0 rfl rfl 34 (by decide) (hts _ qz7) (fun _ h9 => h9) rfl (qaa qmh 4 rfl) ?_
  refine lv_if_ne (tgt := 14) hx hb (qaa qmh 5 rfl) (by decide) (fun c1 => ?_) (fun c1 => ?_)
  · have hw := hw.1 c1
    refine lv_aload_n hx hb (qaa qmh 8 rfl) rfl (lv_at hl 0 rfl) ?_
    refine lv_dup hx hb (qaa qmh 9 rfl) rfl ?_
    refine va_get (D := (dC, dI)) (ci := 11) (v := .int jhQ) (C := RX11) (T := TX11) (N := 55) hx hb hts qsl hown hK hP 0 rfl rfl 34 (by decide) (hts _ qz7) (fun _ h9 => h9) rfl (qaa qmh 10 rfl) ?_
    refine lv_iconst (v := 1) hx hb (qaa qmh 11 rfl) (by decide) ?_
    refine lv_isub hx hb (qaa qmh 12 rfl) ?_
    refine lv_topi (fun x2 ex2 => ?_)
    have hw := hw x2 ex2
    refine va_put (D := (dC, dI)) (ci := 11) (v := .int x2) (ty := .int) (C := RX11) (T := TX11) (N := 55) hx hb hts qsl tyX11 tyX11_ok nmX11 hown hK hP hD hS 0 rfl rfl 34 (by decide) (hts _ qz7) (fun _ h9 => h9) rfl (by decide +kernel) rfl rfl (nbq rfl) (qaa qmh 13 rfl) (fun H locs hP hD hS => ?_)
    have hP : va_P (dC, dI) vwCl (qAK a0 0 jaF jaD ja7 jby jbe jaM jaY jap jaK jal jam jax jao ja6 jaV ja8 jae jag jaf ja0 ja4 jaP jaw jaI jaZ jaG jaS jan jaU jaE jar jaL jah x2 jcn jaz jaH jab jaT z0_s jeG jai jaO jaA jat jau jav jaj jas jaJ jak jad jay jac jeG cyI jlQ jaT cyI jb2) H := hP
    have hD : va_D A (qAK a0 0 jaF jaD ja7 jby jbe jaM jaY jap jaK jal jam jax jao ja6 jaV ja8 jae jag jaf ja0 ja4 jaP jaw jaI jaZ jaG jaS jan jaU jaE jar jaL jah x2 jcn jaz jaH jab jaT z0_s jeG jai jaO jaA jat jau jav jaj jas jaJ jak jad jay jac jeG cyI jlQ jaT cyI jb2) := hD
    refine lv_iconst (v := 0) hx hb (qaa qmh 14 rfl) (by decide) ?_
    refine lv_istore_n (lv' := [(1, .int 0), (0, .ref a0)]) hx hb (qaa qmh 15 rfl) rfl hl (by decide) rfl (fun ls hl => ?_)
    obtain ⟨n9, hw⟩ := hw
    exact qaIk dC dI cyB cyI cyJ cyP a0 jaT jeG jaF jaD ja7 jby jbe jaM jaY jap jaK jal jam jax jao ja6 jaV ja8 jae jag jaf ja0 ja4 jaP jaw jaI jaZ jaG jaS jan jaU jaE jar jaL jah jaz jaH jab z0_s jai jaO jaA jat jau jav jaj jas jaJ jak jad jay jac jlQ Q C0 n9 _ _ _ 0 x2 jcn jb2 0 hP hD hS (lv_sub hl [1, 0] rfl) hw
  · have hw := hw.2 c1
    refine lv_iconst (v := (-1)) hx hb (qaa qmh 6 rfl) (by decide) ?_
    exact ((W.iret (v := (-1)) hx hb hr (fun t ht hW => ⟨⟨(-1), (0, jhQ, jcn, jb2), rfl, hw, by rw [ht]; exact hP, va_K.moved hW.alike hK, hD⟩, hS.F ht⟩) hS.2.2 (qaa qmh 7 rfl)))
theorem qEI : ∀ w ∈ u_ws RX11 TX11 55, w ∈ wsX11_watch := uiM qv8 qfa (by decide +kernel)
theorem qJF : (.fieldLink RX11 166 "MarchHaresModel" "forms" "I" : Cond) ∈ wsX11_watch := qv8 519 (by decide +kernel)
theorem qayn : (.fieldLink RX11 3 "MarchHaresModel" "thrown" "I" : Cond) ∈ wsX11_watch := qv8 589 (by decide +kernel)
set_option maxHeartbeats 4000000 in
set_option maxRecDepth 100000 in
theorem q2u {p : Program} {l : Launch} {e : Env} {s : State} {m : MethodId} {args : Array Value} {below : List Frame} {meth : Method} {c : Code} {A : Nat → Prop} (dC : Nat → ClassId) (dI : Nat → Nat → Nat) (cyB cyI cyJ cyP : ClassId) (a0 jaQ ja5 : Nat) (jaD ja7 jby jbe jaM jaY jap jaK jal jam jax jao jaV ja8 jae jag jaf ja4 jaP jaw jaI jaZ jaG jaS jan jaU jaE jar jaL jah jaB jaa jaz jaH jab ja2 z0_s jaq jai jaO jaA jat jau jav jaj jas jaJ jak jad jay jac : Value) (jaN : Int32) (jbv : NI) (Q : Int32 → Int32 → NI → Prop) (K27 : Int32 → NI → Int32 → Int32 → Int32 → Prop) (K43 : Int32 → NI → Int32 → Int32 → Int32 → Int32 → Int32 → Prop) (K58 : Int32 → NI → Int32 → Int32 → Int32 → Int32 → Int32 → Int32 → Int32 → Prop) (hK27 : ∀ (H : Heap) (locs : List Loc) (ls : Array Slot) (jbd : Int32) (ja9 : NI) (l1 l2 l3 : Int32), va_P (dC, dI) vwCl (qbu a0 jbd jaQ jaD ja7 jby jbe jaM jaY jap jaK jal jam jax jao ja5 jaV ja8 jae jag jaf jaN ja4 jaP jaw jaI jaZ jaG jaS jan jaU jaE jar jaL jah jaB jaa jaz jaH jab ja2 z0_s jaq jai jaO jaA jat jau jav jaj jas jaJ jak jad jay jac jaQ cyI ja9 ja5 cyI jbv) H → va_D A (qbu a0 jbd jaQ jaD ja7 jby jbe jaM jaY jap jaK jal jam jax jao ja5 jaV ja8 jae jag jaf jaN ja4 jaP jaw jaI jaZ jaG jaS jan jaU jaE jar jaL jah jaB jaa jaz jaH jab ja2 z0_s jaq jai jaO jaA jat jau jav jaj jas jaJ jak jad jay jac jaQ cyI ja9 ja5 cyI jbv) → va_S A s.heap H locs → lv_has ls 8 [(0, .ref a0), (1, .int l1), (2, .int l2), (3, .int l3)] → K27 jbd ja9 l1 l2 l3 → W p l e (headSpec wsX11_watch ({ frames := 2, cells := 0, slots := 0, locals := 42 })).room s m args below meth c H locs 0 0 (MQ below (va_Qi (fun (r : Int32) (u : Int32 × NI) => Q r u.1 u.2) (cB (dC, dI) (kT cyB cyI cyJ cyP) A (fun u : Int32 × NI => ((qbu a0 u.1 jaQ jaD ja7 jby jbe jaM jaY jap jaK jal jam jax jao ja5 jaV ja8 jae jag jaf jaN ja4 jaP jaw jaI jaZ jaG jaS jan jaU jaE jar jaL jah jaB jaa jaz jaH jab ja2 z0_s jaq jai jaO jaA jat jau jav jaj jas jaJ jak jad jay jac jaQ cyI u.2 ja5 cyI jbv) : va_W))) A) args s 0 0 A) (F0 m 27 ls [])) (hK43 : ∀ (H : Heap) (locs : List Loc) (ls : Array Slot) (jbd : Int32) (ja9 : NI) (l1 l2 l3 l4 l5 : Int32), va_P (dC, dI) vwCl (qbu a0 jbd jaQ jaD ja7 jby jbe jaM jaY jap jaK jal jam jax jao ja5 jaV ja8 jae jag jaf jaN ja4 jaP jaw jaI jaZ jaG jaS jan jaU jaE jar jaL jah jaB jaa jaz jaH jab ja2 z0_s jaq jai jaO jaA jat jau jav jaj jas jaJ jak jad jay jac jaQ cyI ja9 ja5 cyI jbv) H → va_D A (qbu a0 jbd jaQ jaD ja7 jby jbe jaM jaY jap jaK jal jam jax jao ja5 jaV ja8 jae jag jaf jaN ja4 jaP jaw jaI jaZ jaG jaS jan jaU jaE jar jaL jah jaB jaa jaz jaH jab ja2 z0_s jaq jai jaO jaA jat jau jav jaj jas jaJ jak jad jay jac jaQ cyI ja9 ja5 cyI jbv) → va_S A s.heap H locs → lv_has ls 8 [(0, .ref a0), (1, .int l1), (2, .int l2), (3, .int l3), (4, .int l4), (5, .int l5)] → K43 jbd ja9 l1 l2 l3 l4 l5 → W p l e (headSpec wsX11_watch ({ frames := 2, cells := 0, slots := 0, locals := 42 })).room s m args below meth c H locs 0 0 (MQ below (va_Qi (fun (r : Int32) (u : Int32 × NI) => Q r u.1 u.2) (cB (dC, dI) (kT cyB cyI cyJ cyP) A (fun u : Int32 × NI => ((qbu a0 u.1 jaQ jaD ja7 jby jbe jaM jaY jap jaK jal jam jax jao ja5 jaV ja8 jae jag jaf jaN ja4 jaP jaw jaI jaZ jaG jaS jan jaU jaE jar jaL jah jaB jaa jaz jaH jab ja2 z0_s jaq jai jaO jaA jat jau jav jaj jas jaJ jak jad jay jac jaQ cyI u.2 ja5 cyI jbv) : va_W))) A) args s 0 0 A) (F0 m 43 ls [])) (hK58 : ∀ (H : Heap) (locs : List Loc) (ls : Array Slot) (jbd : Int32) (ja9 : NI) (l1 l2 l3 l4 l5 l6 l7 : Int32), va_P (dC, dI) vwCl (qbu a0 jbd jaQ jaD ja7 jby jbe jaM jaY jap jaK jal jam jax jao ja5 jaV ja8 jae jag jaf jaN ja4 jaP jaw jaI jaZ jaG jaS jan jaU jaE jar jaL jah jaB jaa jaz jaH jab ja2 z0_s jaq jai jaO jaA jat jau jav jaj jas jaJ jak jad jay jac jaQ cyI ja9 ja5 cyI jbv) H → va_D A (qbu a0 jbd jaQ jaD ja7 jby jbe jaM jaY jap jaK jal jam jax jao ja5 jaV ja8 jae jag jaf jaN ja4 jaP jaw jaI jaZ jaG jaS jan jaU jaE jar jaL jah jaB jaa jaz jaH jab ja2 z0_s jaq jai jaO jaA jat jau jav jaj jas jaJ jak jad jay jac jaQ cyI ja9 ja5 cyI jbv) → va_S A s.heap H locs → lv_has ls 8 [(0, .ref a0), (1, .int l1), (2, .int l2), (3, .int l3), (4, .int l4), (5, .int l5), (6, .int l6), (7, .int l7)] → K58 jbd ja9 l1 l2 l3 l4 l5 l6 l7 → W p l e (headSpec wsX11_watch ({ frames := 2, cells := 0, slots := 0, locals := 42 })).room s m args below meth c H locs 0 0 (MQ below (va_Qi (fun (r : Int32) (u : Int32 × NI) => Q r u.1 u.2) (cB (dC, dI) (kT cyB cyI cyJ cyP) A (fun u : Int32 × NI => ((qbu a0 u.1 jaQ jaD ja7 jby jbe jaM jaY jap jaK jal jam jax jao ja5 jaV ja8 jae jag jaf jaN ja4 jaP jaw jaI jaZ jaG jaS jan jaU jaE jar jaL jah jaB jaa jaz jaH jab ja2 z0_s jaq jai jaO jaA jat jau jav jaj jas jaJ jak jad jay jac jaQ cyI u.2 ja5 cyI jbv) : va_W))) A) args s 0 0 A) (F0 m 58 ls [])) (C0 : cfx p s m args meth c cX11_watch (some .int) wsX11_watch RX11 8 A (dC, dI) (kT cyB cyI cyJ cyP)) : ∀ (H : Heap) (locs : List Loc) (ls : Array Slot) (jbd : Int32) (ja9 : NI) (l1 l2 l3 l4 l5 l7 s0 : Int32), va_P (dC, dI) vwCl (qbu a0 jbd jaQ jaD ja7 jby jbe jaM jaY jap jaK jal jam jax jao ja5 jaV ja8 jae jag jaf jaN ja4 jaP jaw jaI jaZ jaG jaS jan jaU jaE jar jaL jah jaB jaa jaz jaH jab ja2 z0_s jaq jai jaO jaA jat jau jav jaj jas jaJ jak jad jay jac jaQ cyI ja9 ja5 cyI jbv) H → va_D A (qbu a0 jbd jaQ jaD ja7 jby jbe jaM jaY jap jaK jal jam jax jao ja5 jaV ja8 jae jag jaf jaN ja4 jaP jaw jaI jaZ jaG jaS jan jaU jaE jar jaL jah jaB jaa jaz jaH jab ja2 z0_s jaq jai jaO jaA jat jau jav jaj jas jaJ jak jad jay jac jaQ cyI ja9 ja5 cyI jbv) → va_S A s.heap H locs → lv_has ls 8 [(0, .ref a0), (1, .int l1), (2, .int l2), (3, .int l3), (4, .int l4), (5, .int l5), (7, .int l7)] → qQx jaN jbv Q K27 K43 K58 jbd ja9 l1 l2 l3 l4 l5 l7 s0 → W p l e (headSpec wsX11_watch ({ frames := 2, cells := 0, slots := 0, locals := 42 })).room s m args below meth c H locs 0 0 (MQ below (va_Qi (fun (r : Int32) (u : Int32 × NI) => Q r u.1 u.2) (cB (dC, dI) (kT cyB cyI cyJ cyP) A (fun u : Int32 × NI => ((qbu a0 u.1 jaQ jaD ja7 jby jbe jaM jaY jap jaK jal jam jax jao ja5 jaV ja8 jae jag jaf jaN ja4 jaP jaw jaI jaZ jaG jaS jan jaU jaE jar jaL jah jaB jaa jaz jaH jab ja2 z0_s jaq jai jaO jaA jat jau jav jaj jas jaJ jak jad jay jac jaQ cyI u.2 ja5 cyI jbv) : va_W))) A) args s 0 0 A) (F0 m 99 ls [.int s0]) := by
  obtain ⟨hx, hb, hr, hts, hown, hlocks, hml, hA, hK, hNw⟩ := id C0
  intro H locs ls jbd ja9 l1 l2 l3 l4 l5 l7 s0 hP hD hS hl hw
  refine lv_istore (lv' := [(6, .int s0), (0, .ref a0), (1, .int l1), (2, .int l2), (3, .int l3), (4, .int l4), (5, .int l5), (7, .int l7)]) hx hb (qaa qhJ 10 rfl) hl (by decide) rfl (fun ls hl => ?_)
  obtain ⟨x22, ex22⟩ : ∃ y : Int32, y = l7 + 1 := ⟨_, rfl⟩
  have hw := hw x22 ex22
  refine lv_iinc (v := x22) (lv' := [(7, .int x22), (6, .int s0), (0, .ref a0), (1, .int l1), (2, .int l2), (3, .int l3), (4, .int l4), (5, .int l5)]) hx hb (qaa qhJ 11 rfl) hl (k := 7) rfl (by rw [ex22]; rfl) (by decide) rfl (fun ls hl => ?_)
  refine lv_goto (tgt := 58) hx hb (qaa qhJ 12 rfl) (by decide) ?_
  exact hK58 _ _ _ jbd ja9 l1 l2 l3 l4 l5 s0 x22 hP hD hS (lv_sub hl [2, 3, 4, 5, 6, 7, 1, 0] rfl) hw
set_option maxHeartbeats 4000000 in
set_option maxRecDepth 100000 in
theorem q07 {p : Program} {l : Launch} {e : Env} {s : State} {m : MethodId} {args : Array Value} {below : List Frame} {meth : Method} {c : Code} {A : Nat → Prop} (dC : Nat → ClassId) (dI : Nat → Nat → Nat) (cyB cyI cyJ cyP : ClassId) (a0 jaQ ja5 : Nat) (jaD ja7 jby jbe jaM jaY jap jaK jal jam jax jao jaV ja8 jae jag jaf ja4 jaP jaw jaI jaZ jaG jaS jan jaU jaE jar jaL jah jaB jaa jaz jaH jab ja2 z0_s jaq jai jaO jaA jat jau jav jaj jas jaJ jak jad jay jac : Value) (jaN : Int32) (jbv : NI) (Q : Int32 → Int32 → NI → Prop) (K27 : Int32 → NI → Int32 → Int32 → Int32 → Prop) (K43 : Int32 → NI → Int32 → Int32 → Int32 → Int32 → Int32 → Prop) (K58 : Int32 → NI → Int32 → Int32 → Int32 → Int32 → Int32 → Int32 → Int32 → Prop) (hK27 : ∀ (H : Heap) (locs : List Loc) (ls : Array Slot) (jbd : Int32) (ja9 : NI) (l1 l2 l3 : Int32), va_P (dC, dI) vwCl (qbu a0 jbd jaQ jaD ja7 jby jbe jaM jaY jap jaK jal jam jax jao ja5 jaV ja8 jae jag jaf jaN ja4 jaP jaw jaI jaZ jaG jaS jan jaU jaE jar jaL jah jaB jaa jaz jaH jab ja2 z0_s jaq jai jaO jaA jat jau jav jaj jas jaJ jak jad jay jac jaQ cyI ja9 ja5 cyI jbv) H → va_D A (qbu a0 jbd jaQ jaD ja7 jby jbe jaM jaY jap jaK jal jam jax jao ja5 jaV ja8 jae jag jaf jaN ja4 jaP jaw jaI jaZ jaG jaS jan jaU jaE jar jaL jah jaB jaa jaz jaH jab ja2 z0_s jaq jai jaO jaA jat jau jav jaj jas jaJ jak jad jay jac jaQ cyI ja9 ja5 cyI jbv) → va_S A s.heap H locs → lv_has ls 8 [(0, .ref a0), (1, .int l1), (2, .int l2), (3, .int l3)] → K27 jbd ja9 l1 l2 l3 → W p l e (headSpec wsX11_watch ({ frames := 2, cells := 0, slots := 0, locals := 42 })).room s m args below meth c H locs 0 0 (MQ below (va_Qi (fun (r : Int32) (u : Int32 × NI) => Q r u.1 u.2) (cB (dC, dI) (kT cyB cyI cyJ cyP) A (fun u : Int32 × NI => ((qbu a0 u.1 jaQ jaD ja7 jby jbe jaM jaY jap jaK jal jam jax jao ja5 jaV ja8 jae jag jaf jaN ja4 jaP jaw jaI jaZ jaG jaS jan jaU jaE jar jaL jah jaB jaa jaz jaH jab ja2 z0_s jaq jai jaO jaA jat jau jav jaj jas jaJ jak jad jay jac jaQ cyI u.2 ja5 cyI jbv) : va_W))) A) args s 0 0 A) (F0 m 27 ls [])) (hK43 : ∀ (H : Heap) (locs : List Loc) (ls : Array Slot) (jbd : Int32) (ja9 : NI) (l1 l2 l3 l4 l5 : Int32), va_P (dC, dI) vwCl (qbu a0 jbd jaQ jaD ja7 jby jbe jaM jaY jap jaK jal jam jax jao ja5 jaV ja8 jae jag jaf jaN ja4 jaP jaw jaI jaZ jaG jaS jan jaU jaE jar jaL jah jaB jaa jaz jaH jab ja2 z0_s jaq jai jaO jaA jat jau jav jaj jas jaJ jak jad jay jac jaQ cyI ja9 ja5 cyI jbv) H → va_D A (qbu a0 jbd jaQ jaD ja7 jby jbe jaM jaY jap jaK jal jam jax jao ja5 jaV ja8 jae jag jaf jaN ja4 jaP jaw jaI jaZ jaG jaS jan jaU jaE jar jaL jah jaB jaa jaz jaH jab ja2 z0_s jaq jai jaO jaA jat jau jav jaj jas jaJ jak jad jay jac jaQ cyI ja9 ja5 cyI jbv) → va_S A s.heap H locs → lv_has ls 8 [(0, .ref a0), (1, .int l1), (2, .int l2), (3, .int l3), (4, .int l4), (5, .int l5)] → K43 jbd ja9 l1 l2 l3 l4 l5 → W p l e (headSpec wsX11_watch ({ frames := 2, cells := 0, slots := 0, locals := 42 })).room s m args below meth c H locs 0 0 (MQ below (va_Qi (fun (r : Int32) (u : Int32 × NI) => Q r u.1 u.2) (cB (dC, dI) (kT cyB cyI cyJ cyP) A (fun u : Int32 × NI => ((qbu a0 u.1 jaQ jaD ja7 jby jbe jaM jaY jap jaK jal jam jax jao ja5 jaV ja8 jae jag jaf jaN ja4 jaP jaw jaI jaZ jaG jaS jan jaU jaE jar jaL jah jaB jaa jaz jaH jab ja2 z0_s jaq jai jaO jaA jat jau jav jaj jas jaJ jak jad jay jac jaQ cyI u.2 ja5 cyI jbv) : va_W))) A) args s 0 0 A) (F0 m 43 ls [])) (hK58 : ∀ (H : Heap) (locs : List Loc) (ls : Array Slot) (jbd : Int32) (ja9 : NI) (l1 l2 l3 l4 l5 l6 l7 : Int32), va_P (dC, dI) vwCl (qbu a0 jbd jaQ jaD ja7 jby jbe jaM jaY jap jaK jal jam jax jao ja5 jaV ja8 jae jag jaf jaN ja4 jaP jaw jaI jaZ jaG jaS jan jaU jaE jar jaL jah jaB jaa jaz jaH jab ja2 z0_s jaq jai jaO jaA jat jau jav jaj jas jaJ jak jad jay jac jaQ cyI ja9 ja5 cyI jbv) H → va_D A (qbu a0 jbd jaQ jaD ja7 jby jbe jaM jaY jap jaK jal jam jax jao ja5 jaV ja8 jae jag jaf jaN ja4 jaP jaw jaI jaZ jaG jaS jan jaU jaE jar jaL jah jaB jaa jaz jaH jab ja2 z0_s jaq jai jaO jaA jat jau jav jaj jas jaJ jak jad jay jac jaQ cyI ja9 ja5 cyI jbv) → va_S A s.heap H locs → lv_has ls 8 [(0, .ref a0), (1, .int l1), (2, .int l2), (3, .int l3), (4, .int l4), (5, .int l5), (6, .int l6), (7, .int l7)] → K58 jbd ja9 l1 l2 l3 l4 l5 l6 l7 → W p l e (headSpec wsX11_watch ({ frames := 2, cells := 0, slots := 0, locals := 42 })).room s m args below meth c H locs 0 0 (MQ below (va_Qi (fun (r : Int32) (u : Int32 × NI) => Q r u.1 u.2) (cB (dC, dI) (kT cyB cyI cyJ cyP) A (fun u : Int32 × NI => ((qbu a0 u.1 jaQ jaD ja7 jby jbe jaM jaY jap jaK jal jam jax jao ja5 jaV ja8 jae jag jaf jaN ja4 jaP jaw jaI jaZ jaG jaS jan jaU jaE jar jaL jah jaB jaa jaz jaH jab ja2 z0_s jaq jai jaO jaA jat jau jav jaj jas jaJ jak jad jay jac jaQ cyI u.2 ja5 cyI jbv) : va_W))) A) args s 0 0 A) (F0 m 58 ls [])) (C0 : cfx p s m args meth c cX11_watch (some .int) wsX11_watch RX11 8 A (dC, dI) (kT cyB cyI cyJ cyP)) : ∀ (H : Heap) (locs : List Loc) (ls : Array Slot) (jbd : Int32) (ja9 : NI) (l1 l2 l3 l4 l5 l7 : Int32), va_P (dC, dI) vwCl (qbu a0 jbd jaQ jaD ja7 jby jbe jaM jaY jap jaK jal jam jax jao ja5 jaV ja8 jae jag jaf jaN ja4 jaP jaw jaI jaZ jaG jaS jan jaU jaE jar jaL jah jaB jaa jaz jaH jab ja2 z0_s jaq jai jaO jaA jat jau jav jaj jas jaJ jak jad jay jac jaQ cyI ja9 ja5 cyI jbv) H → va_D A (qbu a0 jbd jaQ jaD ja7 jby jbe jaM jaY jap jaK jal jam jax jao ja5 jaV ja8 jae jag jaf jaN ja4 jaP jaw jaI jaZ jaG jaS jan jaU jaE jar jaL jah jaB jaa jaz jaH jab ja2 z0_s jaq jai jaO jaA jat jau jav jaj jas jaJ jak jad jay jac jaQ cyI ja9 ja5 cyI jbv) → va_S A s.heap H locs → lv_has ls 8 [(0, .ref a0), (1, .int l1), (2, .int l2), (3, .int l3), (4, .int l4), (5, .int l5), (7, .int l7)] → qPK jaN jbv Q K27 K43 K58 jbd ja9 l1 l2 l3 l4 l5 l7 → W p l e (headSpec wsX11_watch ({ frames := 2, cells := 0, slots := 0, locals := 42 })).room s m args below meth c H locs 0 0 (MQ below (va_Qi (fun (r : Int32) (u : Int32 × NI) => Q r u.1 u.2) (cB (dC, dI) (kT cyB cyI cyJ cyP) A (fun u : Int32 × NI => ((qbu a0 u.1 jaQ jaD ja7 jby jbe jaM jaY jap jaK jal jam jax jao ja5 jaV ja8 jae jag jaf jaN ja4 jaP jaw jaI jaZ jaG jaS jan jaU jaE jar jaL jah jaB jaa jaz jaH jab ja2 z0_s jaq jai jaO jaA jat jau jav jaj jas jaJ jak jad jay jac jaQ cyI u.2 ja5 cyI jbv) : va_W))) A) args s 0 0 A) (F0 m 94 ls []) := by
  obtain ⟨hx, hb, hr, hts, hown, hlocks, hml, hA, hK, hNw⟩ := id C0
  intro H locs ls jbd ja9 l1 l2 l3 l4 l5 l7 hP hD hS hl hw
  refine lv_iconst (v := 1) hx hb (qaa qhJ 7 rfl) (by decide) ?_
  refine lv_goto (tgt := 99) hx hb (qaa qhJ 8 rfl) (by decide) ?_
  exact q2u dC dI cyB cyI cyJ cyP a0 jaQ ja5 jaD ja7 jby jbe jaM jaY jap jaK jal jam jax jao jaV ja8 jae jag jaf ja4 jaP jaw jaI jaZ jaG jaS jan jaU jaE jar jaL jah jaB jaa jaz jaH jab ja2 z0_s jaq jai jaO jaA jat jau jav jaj jas jaJ jak jad jay jac jaN jbv Q K27 K43 K58 hK27 hK43 hK58 C0 _ _ _ jbd ja9 l1 l2 l3 l4 l5 l7 1 hP hD hS (lv_sub hl [0, 1, 2, 3, 4, 5, 6] rfl) hw
set_option maxHeartbeats 4000000 in
set_option maxRecDepth 100000 in
theorem q3S {p : Program} {l : Launch} {e : Env} {s : State} {m : MethodId} {args : Array Value} {below : List Frame} {meth : Method} {c : Code} {A : Nat → Prop} (dC : Nat → ClassId) (dI : Nat → Nat → Nat) (cyB cyI cyJ cyP : ClassId) (a0 jaQ ja5 : Nat) (jaD ja7 jby jbe jaM jaY jap jaK jal jam jax jao jaV ja8 jae jag jaf ja4 jaP jaw jaI jaZ jaG jaS jan jaU jaE jar jaL jah jaB jaa jaz jaH jab ja2 z0_s jaq jai jaO jaA jat jau jav jaj jas jaJ jak jad jay jac : Value) (jaN : Int32) (jbv : NI) (Q : Int32 → Int32 → NI → Prop) (K27 : Int32 → NI → Int32 → Int32 → Int32 → Prop) (K43 : Int32 → NI → Int32 → Int32 → Int32 → Int32 → Int32 → Prop) (K58 : Int32 → NI → Int32 → Int32 → Int32 → Int32 → Int32 → Int32 → Int32 → Prop) (hK27 : ∀ (H : Heap) (locs : List Loc) (ls : Array Slot) (jbd : Int32) (ja9 : NI) (l1 l2 l3 : Int32), va_P (dC, dI) vwCl (qbu a0 jbd jaQ jaD ja7 jby jbe jaM jaY jap jaK jal jam jax jao ja5 jaV ja8 jae jag jaf jaN ja4 jaP jaw jaI jaZ jaG jaS jan jaU jaE jar jaL jah jaB jaa jaz jaH jab ja2 z0_s jaq jai jaO jaA jat jau jav jaj jas jaJ jak jad jay jac jaQ cyI ja9 ja5 cyI jbv) H → va_D A (qbu a0 jbd jaQ jaD ja7 jby jbe jaM jaY jap jaK jal jam jax jao ja5 jaV ja8 jae jag jaf jaN ja4 jaP jaw jaI jaZ jaG jaS jan jaU jaE jar jaL jah jaB jaa jaz jaH jab ja2 z0_s jaq jai jaO jaA jat jau jav jaj jas jaJ jak jad jay jac jaQ cyI ja9 ja5 cyI jbv) → va_S A s.heap H locs → lv_has ls 8 [(0, .ref a0), (1, .int l1), (2, .int l2), (3, .int l3)] → K27 jbd ja9 l1 l2 l3 → W p l e (headSpec wsX11_watch ({ frames := 2, cells := 0, slots := 0, locals := 42 })).room s m args below meth c H locs 0 0 (MQ below (va_Qi (fun (r : Int32) (u : Int32 × NI) => Q r u.1 u.2) (cB (dC, dI) (kT cyB cyI cyJ cyP) A (fun u : Int32 × NI => ((qbu a0 u.1 jaQ jaD ja7 jby jbe jaM jaY jap jaK jal jam jax jao ja5 jaV ja8 jae jag jaf jaN ja4 jaP jaw jaI jaZ jaG jaS jan jaU jaE jar jaL jah jaB jaa jaz jaH jab ja2 z0_s jaq jai jaO jaA jat jau jav jaj jas jaJ jak jad jay jac jaQ cyI u.2 ja5 cyI jbv) : va_W))) A) args s 0 0 A) (F0 m 27 ls [])) (hK43 : ∀ (H : Heap) (locs : List Loc) (ls : Array Slot) (jbd : Int32) (ja9 : NI) (l1 l2 l3 l4 l5 : Int32), va_P (dC, dI) vwCl (qbu a0 jbd jaQ jaD ja7 jby jbe jaM jaY jap jaK jal jam jax jao ja5 jaV ja8 jae jag jaf jaN ja4 jaP jaw jaI jaZ jaG jaS jan jaU jaE jar jaL jah jaB jaa jaz jaH jab ja2 z0_s jaq jai jaO jaA jat jau jav jaj jas jaJ jak jad jay jac jaQ cyI ja9 ja5 cyI jbv) H → va_D A (qbu a0 jbd jaQ jaD ja7 jby jbe jaM jaY jap jaK jal jam jax jao ja5 jaV ja8 jae jag jaf jaN ja4 jaP jaw jaI jaZ jaG jaS jan jaU jaE jar jaL jah jaB jaa jaz jaH jab ja2 z0_s jaq jai jaO jaA jat jau jav jaj jas jaJ jak jad jay jac jaQ cyI ja9 ja5 cyI jbv) → va_S A s.heap H locs → lv_has ls 8 [(0, .ref a0), (1, .int l1), (2, .int l2), (3, .int l3), (4, .int l4), (5, .int l5)] → K43 jbd ja9 l1 l2 l3 l4 l5 → W p l e (headSpec wsX11_watch ({ frames := 2, cells := 0, slots := 0, locals := 42 })).room s m args below meth c H locs 0 0 (MQ below (va_Qi (fun (r : Int32) (u : Int32 × NI) => Q r u.1 u.2) (cB (dC, dI) (kT cyB cyI cyJ cyP) A (fun u : Int32 × NI => ((qbu a0 u.1 jaQ jaD ja7 jby jbe jaM jaY jap jaK jal jam jax jao ja5 jaV ja8 jae jag jaf jaN ja4 jaP jaw jaI jaZ jaG jaS jan jaU jaE jar jaL jah jaB jaa jaz jaH jab ja2 z0_s jaq jai jaO jaA jat jau jav jaj jas jaJ jak jad jay jac jaQ cyI u.2 ja5 cyI jbv) : va_W))) A) args s 0 0 A) (F0 m 43 ls [])) (hK58 : ∀ (H : Heap) (locs : List Loc) (ls : Array Slot) (jbd : Int32) (ja9 : NI) (l1 l2 l3 l4 l5 l6 l7 : Int32), va_P (dC, dI) vwCl (qbu a0 jbd jaQ jaD ja7 jby jbe jaM jaY jap jaK jal jam jax jao ja5 jaV ja8 jae jag jaf jaN ja4 jaP jaw jaI jaZ jaG jaS jan jaU jaE jar jaL jah jaB jaa jaz jaH jab ja2 z0_s jaq jai jaO jaA jat jau jav jaj jas jaJ jak jad jay jac jaQ cyI ja9 ja5 cyI jbv) H → va_D A (qbu a0 jbd jaQ jaD ja7 jby jbe jaM jaY jap jaK jal jam jax jao ja5 jaV ja8 jae jag jaf jaN ja4 jaP jaw jaI jaZ jaG jaS jan jaU jaE jar jaL jah jaB jaa jaz jaH jab ja2 z0_s jaq jai jaO jaA jat jau jav jaj jas jaJ jak jad jay jac jaQ cyI ja9 ja5 cyI jbv) → va_S A s.heap H locs → lv_has ls 8 [(0, .ref a0), (1, .int l1), (2, .int l2), (3, .int l3), (4, .int l4), (5, .int l5), (6, .int l6), (7, .int l7)] → K58 jbd ja9 l1 l2 l3 l4 l5 l6 l7 → W p l e (headSpec wsX11_watch ({ frames := 2, cells := 0, slots := 0, locals := 42 })).room s m args below meth c H locs 0 0 (MQ below (va_Qi (fun (r : Int32) (u : Int32 × NI) => Q r u.1 u.2) (cB (dC, dI) (kT cyB cyI cyJ cyP) A (fun u : Int32 × NI => ((qbu a0 u.1 jaQ jaD ja7 jby jbe jaM jaY jap jaK jal jam jax jao ja5 jaV ja8 jae jag jaf jaN ja4 jaP jaw jaI jaZ jaG jaS jan jaU jaE jar jaL jah jaB jaa jaz jaH jab ja2 z0_s jaq jai jaO jaA jat jau jav jaj jas jaJ jak jad jay jac jaQ cyI u.2 ja5 cyI jbv) : va_W))) A) args s 0 0 A) (F0 m 58 ls [])) (C0 : cfx p s m args meth c cX11_watch (some .int) wsX11_watch RX11 8 A (dC, dI) (kT cyB cyI cyJ cyP)) : ∀ (H : Heap) (locs : List Loc) (ls : Array Slot) (jbd : Int32) (ja9 : NI) (l1 l2 l3 l4 l5 l7 : Int32), va_P (dC, dI) vwCl (qbu a0 jbd jaQ jaD ja7 jby jbe jaM jaY jap jaK jal jam jax jao ja5 jaV ja8 jae jag jaf jaN ja4 jaP jaw jaI jaZ jaG jaS jan jaU jaE jar jaL jah jaB jaa jaz jaH jab ja2 z0_s jaq jai jaO jaA jat jau jav jaj jas jaJ jak jad jay jac jaQ cyI ja9 ja5 cyI jbv) H → va_D A (qbu a0 jbd jaQ jaD ja7 jby jbe jaM jaY jap jaK jal jam jax jao ja5 jaV ja8 jae jag jaf jaN ja4 jaP jaw jaI jaZ jaG jaS jan jaU jaE jar jaL jah jaB jaa jaz jaH jab ja2 z0_s jaq jai jaO jaA jat jau jav jaj jas jaJ jak jad jay jac jaQ cyI ja9 ja5 cyI jbv) → va_S A s.heap H locs → lv_has ls 8 [(0, .ref a0), (1, .int l1), (2, .int l2), (3, .int l3), (4, .int l4), (5, .int l5), (7, .int l7)] → qPx jaN jbv Q K27 K43 K58 jbd ja9 l1 l2 l3 l4 l5 l7 → W p l e (headSpec wsX11_watch ({ frames := 2, cells := 0, slots := 0, locals := 42 })).room s m args below meth c H locs 0 0 (MQ below (va_Qi (fun (r : Int32) (u : Int32 × NI) => Q r u.1 u.2) (cB (dC, dI) (kT cyB cyI cyJ cyP) A (fun u : Int32 × NI => ((qbu a0 u.1 jaQ jaD ja7 jby jbe jaM jaY jap jaK jal jam jax jao ja5 jaV ja8 jae jag jaf jaN ja4 jaP jaw jaI jaZ jaG jaS jan jaU jaE jar jaL jah jaB jaa jaz jaH jab ja2 z0_s jaq jai jaO jaA jat jau jav jaj jas jaJ jak jad jay jac jaQ cyI u.2 ja5 cyI jbv) : va_W))) A) args s 0 0 A) (F0 m 98 ls []) := by
  obtain ⟨hx, hb, hr, hts, hown, hlocks, hml, hA, hK, hNw⟩ := id C0
  intro H locs ls jbd ja9 l1 l2 l3 l4 l5 l7 hP hD hS hl hw
  refine lv_iconst (v := 0) hx hb (qaa qhJ 9 rfl) (by decide) ?_
  exact q2u dC dI cyB cyI cyJ cyP a0 jaQ ja5 jaD ja7 jby jbe jaM jaY jap jaK jal jam jax jao jaV ja8 jae jag jaf ja4 jaP jaw jaI jaZ jaG jaS jan jaU jaE jar jaL jah jaB jaa jaz jaH jab ja2 z0_s jaq jai jaO jaA jat jau jav jaj jas jaJ jak jad jay jac jaN jbv Q K27 K43 K58 hK27 hK43 hK58 C0 _ _ _ jbd ja9 l1 l2 l3 l4 l5 l7 0 hP hD hS (lv_sub hl [0, 1, 2, 3, 4, 5, 6] rfl) hw
set_option maxHeartbeats 4000000 in
set_option maxRecDepth 100000 in
theorem qY2 {p : Program} {l : Launch} {e : Env} {s : State} {m : MethodId} {args : Array Value} {below : List Frame} {meth : Method} {c : Code} {A : Nat → Prop} (dC : Nat → ClassId) (dI : Nat → Nat → Nat) (cyB cyI cyJ cyP : ClassId) (a0 jaQ ja5 : Nat) (jaD ja7 jby jbe jaM jaY jap jaK jal jam jax jao jaV ja8 jae jag jaf ja4 jaP jaw jaI jaZ jaG jaS jan jaU jaE jar jaL jah jaB jaa jaz jaH jab ja2 z0_s jaq jai jaO jaA jat jau jav jaj jas jaJ jak jad jay jac : Value) (jaN : Int32) (jbv : NI) (Q : Int32 → Int32 → NI → Prop) (K27 : Int32 → NI → Int32 → Int32 → Int32 → Prop) (K43 : Int32 → NI → Int32 → Int32 → Int32 → Int32 → Int32 → Prop) (hK27 : ∀ (H : Heap) (locs : List Loc) (ls : Array Slot) (jbd : Int32) (ja9 : NI) (l1 l2 l3 : Int32), va_P (dC, dI) vwCl (qbu a0 jbd jaQ jaD ja7 jby jbe jaM jaY jap jaK jal jam jax jao ja5 jaV ja8 jae jag jaf jaN ja4 jaP jaw jaI jaZ jaG jaS jan jaU jaE jar jaL jah jaB jaa jaz jaH jab ja2 z0_s jaq jai jaO jaA jat jau jav jaj jas jaJ jak jad jay jac jaQ cyI ja9 ja5 cyI jbv) H → va_D A (qbu a0 jbd jaQ jaD ja7 jby jbe jaM jaY jap jaK jal jam jax jao ja5 jaV ja8 jae jag jaf jaN ja4 jaP jaw jaI jaZ jaG jaS jan jaU jaE jar jaL jah jaB jaa jaz jaH jab ja2 z0_s jaq jai jaO jaA jat jau jav jaj jas jaJ jak jad jay jac jaQ cyI ja9 ja5 cyI jbv) → va_S A s.heap H locs → lv_has ls 8 [(0, .ref a0), (1, .int l1), (2, .int l2), (3, .int l3)] → K27 jbd ja9 l1 l2 l3 → W p l e (headSpec wsX11_watch ({ frames := 2, cells := 0, slots := 0, locals := 42 })).room s m args below meth c H locs 0 0 (MQ below (va_Qi (fun (r : Int32) (u : Int32 × NI) => Q r u.1 u.2) (cB (dC, dI) (kT cyB cyI cyJ cyP) A (fun u : Int32 × NI => ((qbu a0 u.1 jaQ jaD ja7 jby jbe jaM jaY jap jaK jal jam jax jao ja5 jaV ja8 jae jag jaf jaN ja4 jaP jaw jaI jaZ jaG jaS jan jaU jaE jar jaL jah jaB jaa jaz jaH jab ja2 z0_s jaq jai jaO jaA jat jau jav jaj jas jaJ jak jad jay jac jaQ cyI u.2 ja5 cyI jbv) : va_W))) A) args s 0 0 A) (F0 m 27 ls [])) (hK43 : ∀ (H : Heap) (locs : List Loc) (ls : Array Slot) (jbd : Int32) (ja9 : NI) (l1 l2 l3 l4 l5 : Int32), va_P (dC, dI) vwCl (qbu a0 jbd jaQ jaD ja7 jby jbe jaM jaY jap jaK jal jam jax jao ja5 jaV ja8 jae jag jaf jaN ja4 jaP jaw jaI jaZ jaG jaS jan jaU jaE jar jaL jah jaB jaa jaz jaH jab ja2 z0_s jaq jai jaO jaA jat jau jav jaj jas jaJ jak jad jay jac jaQ cyI ja9 ja5 cyI jbv) H → va_D A (qbu a0 jbd jaQ jaD ja7 jby jbe jaM jaY jap jaK jal jam jax jao ja5 jaV ja8 jae jag jaf jaN ja4 jaP jaw jaI jaZ jaG jaS jan jaU jaE jar jaL jah jaB jaa jaz jaH jab ja2 z0_s jaq jai jaO jaA jat jau jav jaj jas jaJ jak jad jay jac jaQ cyI ja9 ja5 cyI jbv) → va_S A s.heap H locs → lv_has ls 8 [(0, .ref a0), (1, .int l1), (2, .int l2), (3, .int l3), (4, .int l4), (5, .int l5)] → K43 jbd ja9 l1 l2 l3 l4 l5 → W p l e (headSpec wsX11_watch ({ frames := 2, cells := 0, slots := 0, locals := 42 })).room s m args below meth c H locs 0 0 (MQ below (va_Qi (fun (r : Int32) (u : Int32 × NI) => Q r u.1 u.2) (cB (dC, dI) (kT cyB cyI cyJ cyP) A (fun u : Int32 × NI => ((qbu a0 u.1 jaQ jaD ja7 jby jbe jaM jaY jap jaK jal jam jax jao ja5 jaV ja8 jae jag jaf jaN ja4 jaP jaw jaI jaZ jaG jaS jan jaU jaE jar jaL jah jaB jaa jaz jaH jab ja2 z0_s jaq jai jaO jaA jat jau jav jaj jas jaJ jak jad jay jac jaQ cyI u.2 ja5 cyI jbv) : va_W))) A) args s 0 0 A) (F0 m 43 ls [])) (C0 : cfx p s m args meth c cX11_watch (some .int) wsX11_watch RX11 8 A (dC, dI) (kT cyB cyI cyJ cyP)) : ∀ (H : Heap) (locs : List Loc) (ls : Array Slot) (jbd : Int32) (ja9 : NI) (l1 l2 l3 l5 s0 : Int32), va_P (dC, dI) vwCl (qbu a0 jbd jaQ jaD ja7 jby jbe jaM jaY jap jaK jal jam jax jao ja5 jaV ja8 jae jag jaf jaN ja4 jaP jaw jaI jaZ jaG jaS jan jaU jaE jar jaL jah jaB jaa jaz jaH jab ja2 z0_s jaq jai jaO jaA jat jau jav jaj jas jaJ jak jad jay jac jaQ cyI ja9 ja5 cyI jbv) H → va_D A (qbu a0 jbd jaQ jaD ja7 jby jbe jaM jaY jap jaK jal jam jax jao ja5 jaV ja8 jae jag jaf jaN ja4 jaP jaw jaI jaZ jaG jaS jan jaU jaE jar jaL jah jaB jaa jaz jaH jab ja2 z0_s jaq jai jaO jaA jat jau jav jaj jas jaJ jak jad jay jac jaQ cyI ja9 ja5 cyI jbv) → va_S A s.heap H locs → lv_has ls 8 [(0, .ref a0), (1, .int l1), (2, .int l2), (3, .int l3), (5, .int l5)] → qNb jaN jbv Q K27 K43 jbd ja9 l1 l2 l3 l5 s0 → W p l e (headSpec wsX11_watch ({ frames := 2, cells := 0, slots := 0, locals := 42 })).room s m args below meth c H locs 0 0 (MQ below (va_Qi (fun (r : Int32) (u : Int32 × NI) => Q r u.1 u.2) (cB (dC, dI) (kT cyB cyI cyJ cyP) A (fun u : Int32 × NI => ((qbu a0 u.1 jaQ jaD ja7 jby jbe jaM jaY jap jaK jal jam jax jao ja5 jaV ja8 jae jag jaf jaN ja4 jaP jaw jaI jaZ jaG jaS jan jaU jaE jar jaL jah jaB jaa jaz jaH jab ja2 z0_s jaq jai jaO jaA jat jau jav jaj jas jaJ jak jad jay jac jaQ cyI u.2 ja5 cyI jbv) : va_W))) A) args s 0 0 A) (F0 m 122 ls [.int s0]) := by
  obtain ⟨hx, hb, hr, hts, hown, hlocks, hml, hA, hK, hNw⟩ := id C0
  intro H locs ls jbd ja9 l1 l2 l3 l5 s0 hP hD hS hl hw
  refine lv_istore (lv' := [(4, .int s0), (0, .ref a0), (1, .int l1), (2, .int l2), (3, .int l3), (5, .int l5)]) hx hb (qaa qfd 4 rfl) hl (by decide) rfl (fun ls hl => ?_)
  obtain ⟨x21, ex21⟩ : ∃ y : Int32, y = l5 + 1 := ⟨_, rfl⟩
  have hw := hw x21 ex21
  refine lv_iinc (v := x21) (lv' := [(5, .int x21), (4, .int s0), (0, .ref a0), (1, .int l1), (2, .int l2), (3, .int l3)]) hx hb (qaa qfd 5 rfl) hl (k := 5) rfl (by rw [ex21]; rfl) (by decide) rfl (fun ls hl => ?_)
  refine lv_goto (tgt := 43) hx hb (qaa qfd 6 rfl) (by decide) ?_
  exact hK43 _ _ _ jbd ja9 l1 l2 l3 s0 x21 hP hD hS (lv_sub hl [2, 3, 4, 5, 1, 0] rfl) hw
set_option maxHeartbeats 4000000 in
set_option maxRecDepth 100000 in
theorem qZt {p : Program} {l : Launch} {e : Env} {s : State} {m : MethodId} {args : Array Value} {below : List Frame} {meth : Method} {c : Code} {A : Nat → Prop} (dC : Nat → ClassId) (dI : Nat → Nat → Nat) (cyB cyI cyJ cyP : ClassId) (a0 jaQ ja5 : Nat) (jaD ja7 jby jbe jaM jaY jap jaK jal jam jax jao jaV ja8 jae jag jaf ja4 jaP jaw jaI jaZ jaG jaS jan jaU jaE jar jaL jah jaB jaa jaz jaH jab ja2 z0_s jaq jai jaO jaA jat jau jav jaj jas jaJ jak jad jay jac : Value) (jaN : Int32) (jbv : NI) (Q : Int32 → Int32 → NI → Prop) (K27 : Int32 → NI → Int32 → Int32 → Int32 → Prop) (K43 : Int32 → NI → Int32 → Int32 → Int32 → Int32 → Int32 → Prop) (hK27 : ∀ (H : Heap) (locs : List Loc) (ls : Array Slot) (jbd : Int32) (ja9 : NI) (l1 l2 l3 : Int32), va_P (dC, dI) vwCl (qbu a0 jbd jaQ jaD ja7 jby jbe jaM jaY jap jaK jal jam jax jao ja5 jaV ja8 jae jag jaf jaN ja4 jaP jaw jaI jaZ jaG jaS jan jaU jaE jar jaL jah jaB jaa jaz jaH jab ja2 z0_s jaq jai jaO jaA jat jau jav jaj jas jaJ jak jad jay jac jaQ cyI ja9 ja5 cyI jbv) H → va_D A (qbu a0 jbd jaQ jaD ja7 jby jbe jaM jaY jap jaK jal jam jax jao ja5 jaV ja8 jae jag jaf jaN ja4 jaP jaw jaI jaZ jaG jaS jan jaU jaE jar jaL jah jaB jaa jaz jaH jab ja2 z0_s jaq jai jaO jaA jat jau jav jaj jas jaJ jak jad jay jac jaQ cyI ja9 ja5 cyI jbv) → va_S A s.heap H locs → lv_has ls 8 [(0, .ref a0), (1, .int l1), (2, .int l2), (3, .int l3)] → K27 jbd ja9 l1 l2 l3 → W p l e (headSpec wsX11_watch ({ frames := 2, cells := 0, slots := 0, locals := 42 })).room s m args below meth c H locs 0 0 (MQ below (va_Qi (fun (r : Int32) (u : Int32 × NI) => Q r u.1 u.2) (cB (dC, dI) (kT cyB cyI cyJ cyP) A (fun u : Int32 × NI => ((qbu a0 u.1 jaQ jaD ja7 jby jbe jaM jaY jap jaK jal jam jax jao ja5 jaV ja8 jae jag jaf jaN ja4 jaP jaw jaI jaZ jaG jaS jan jaU jaE jar jaL jah jaB jaa jaz jaH jab ja2 z0_s jaq jai jaO jaA jat jau jav jaj jas jaJ jak jad jay jac jaQ cyI u.2 ja5 cyI jbv) : va_W))) A) args s 0 0 A) (F0 m 27 ls [])) (hK43 : ∀ (H : Heap) (locs : List Loc) (ls : Array Slot) (jbd : Int32) (ja9 : NI) (l1 l2 l3 l4 l5 : Int32), va_P (dC, dI) vwCl (qbu a0 jbd jaQ jaD ja7 jby jbe jaM jaY jap jaK jal jam jax jao ja5 jaV ja8 jae jag jaf jaN ja4 jaP jaw jaI jaZ jaG jaS jan jaU jaE jar jaL jah jaB jaa jaz jaH jab ja2 z0_s jaq jai jaO jaA jat jau jav jaj jas jaJ jak jad jay jac jaQ cyI ja9 ja5 cyI jbv) H → va_D A (qbu a0 jbd jaQ jaD ja7 jby jbe jaM jaY jap jaK jal jam jax jao ja5 jaV ja8 jae jag jaf jaN ja4 jaP jaw jaI jaZ jaG jaS jan jaU jaE jar jaL jah jaB jaa jaz jaH jab ja2 z0_s jaq jai jaO jaA jat jau jav jaj jas jaJ jak jad jay jac jaQ cyI ja9 ja5 cyI jbv) → va_S A s.heap H locs → lv_has ls 8 [(0, .ref a0), (1, .int l1), (2, .int l2), (3, .int l3), (4, .int l4), (5, .int l5)] → K43 jbd ja9 l1 l2 l3 l4 l5 → W p l e (headSpec wsX11_watch ({ frames := 2, cells := 0, slots := 0, locals := 42 })).room s m args below meth c H locs 0 0 (MQ below (va_Qi (fun (r : Int32) (u : Int32 × NI) => Q r u.1 u.2) (cB (dC, dI) (kT cyB cyI cyJ cyP) A (fun u : Int32 × NI => ((qbu a0 u.1 jaQ jaD ja7 jby jbe jaM jaY jap jaK jal jam jax jao ja5 jaV ja8 jae jag jaf jaN ja4 jaP jaw jaI jaZ jaG jaS jan jaU jaE jar jaL jah jaB jaa jaz jaH jab ja2 z0_s jaq jai jaO jaA jat jau jav jaj jas jaJ jak jad jay jac jaQ cyI u.2 ja5 cyI jbv) : va_W))) A) args s 0 0 A) (F0 m 43 ls [])) (C0 : cfx p s m args meth c cX11_watch (some .int) wsX11_watch RX11 8 A (dC, dI) (kT cyB cyI cyJ cyP)) : ∀ (H : Heap) (locs : List Loc) (ls : Array Slot) (jbd : Int32) (ja9 : NI) (l1 l2 l3 l5 : Int32), va_P (dC, dI) vwCl (qbu a0 jbd jaQ jaD ja7 jby jbe jaM jaY jap jaK jal jam jax jao ja5 jaV ja8 jae jag jaf jaN ja4 jaP jaw jaI jaZ jaG jaS jan jaU jaE jar jaL jah jaB jaa jaz jaH jab ja2 z0_s jaq jai jaO jaA jat jau jav jaj jas jaJ jak jad jay jac jaQ cyI ja9 ja5 cyI jbv) H → va_D A (qbu a0 jbd jaQ jaD ja7 jby jbe jaM jaY jap jaK jal jam jax jao ja5 jaV ja8 jae jag jaf jaN ja4 jaP jaw jaI jaZ jaG jaS jan jaU jaE jar jaL jah jaB jaa jaz jaH jab ja2 z0_s jaq jai jaO jaA jat jau jav jaj jas jaJ jak jad jay jac jaQ cyI ja9 ja5 cyI jbv) → va_S A s.heap H locs → lv_has ls 8 [(0, .ref a0), (1, .int l1), (2, .int l2), (3, .int l3), (5, .int l5)] → qM6 jaN jbv Q K27 K43 jbd ja9 l1 l2 l3 l5 → W p l e (headSpec wsX11_watch ({ frames := 2, cells := 0, slots := 0, locals := 42 })).room s m args below meth c H locs 0 0 (MQ below (va_Qi (fun (r : Int32) (u : Int32 × NI) => Q r u.1 u.2) (cB (dC, dI) (kT cyB cyI cyJ cyP) A (fun u : Int32 × NI => ((qbu a0 u.1 jaQ jaD ja7 jby jbe jaM jaY jap jaK jal jam jax jao ja5 jaV ja8 jae jag jaf jaN ja4 jaP jaw jaI jaZ jaG jaS jan jaU jaE jar jaL jah jaB jaa jaz jaH jab ja2 z0_s jaq jai jaO jaA jat jau jav jaj jas jaJ jak jad jay jac jaQ cyI u.2 ja5 cyI jbv) : va_W))) A) args s 0 0 A) (F0 m 121 ls []) := by
  obtain ⟨hx, hb, hr, hts, hown, hlocks, hml, hA, hK, hNw⟩ := id C0
  intro H locs ls jbd ja9 l1 l2 l3 l5 hP hD hS hl hw
  refine lv_iconst (v := 0) hx hb (qaa qfd 3 rfl) (by decide) ?_
  exact qY2 dC dI cyB cyI cyJ cyP a0 jaQ ja5 jaD ja7 jby jbe jaM jaY jap jaK jal jam jax jao jaV ja8 jae jag jaf ja4 jaP jaw jaI jaZ jaG jaS jan jaU jaE jar jaL jah jaB jaa jaz jaH jab ja2 z0_s jaq jai jaO jaA jat jau jav jaj jas jaJ jak jad jay jac jaN jbv Q K27 K43 hK27 hK43 C0 _ _ _ jbd ja9 l1 l2 l3 l5 0 hP hD hS (lv_sub hl [0, 1, 2, 3, 4] rfl) hw
set_option maxHeartbeats 4000000 in
set_option maxRecDepth 100000 in
theorem qavr {p : Program} {l : Launch} {e : Env} {s : State} {m : MethodId} {args : Array Value} {below : List Frame} {meth : Method} {c : Code} {A : Nat → Prop} (dC : Nat → ClassId) (dI : Nat → Nat → Nat) (cyB cyI cyJ cyP : ClassId) (a0 jaQ ja5 : Nat) (jaD ja7 jby jbe jaM jaY jap jaK jal jam jax jao jaV ja8 jae jag jaf ja4 jaP jaw jaI jaZ jaG jaS jan jaU jaE jar jaL jah jaB jaa jaz jaH jab ja2 z0_s jaq jai jaO jaA jat jau jav jaj jas jaJ jak jad jay jac : Value) (jaN : Int32) (jbv : NI) (Q : Int32 → Int32 → NI → Prop) (K27 : Int32 → NI → Int32 → Int32 → Int32 → Prop) (K43 : Int32 → NI → Int32 → Int32 → Int32 → Int32 → Int32 → Prop) (hK27 : ∀ (H : Heap) (locs : List Loc) (ls : Array Slot) (jbd : Int32) (ja9 : NI) (l1 l2 l3 : Int32), va_P (dC, dI) vwCl (qbu a0 jbd jaQ jaD ja7 jby jbe jaM jaY jap jaK jal jam jax jao ja5 jaV ja8 jae jag jaf jaN ja4 jaP jaw jaI jaZ jaG jaS jan jaU jaE jar jaL jah jaB jaa jaz jaH jab ja2 z0_s jaq jai jaO jaA jat jau jav jaj jas jaJ jak jad jay jac jaQ cyI ja9 ja5 cyI jbv) H → va_D A (qbu a0 jbd jaQ jaD ja7 jby jbe jaM jaY jap jaK jal jam jax jao ja5 jaV ja8 jae jag jaf jaN ja4 jaP jaw jaI jaZ jaG jaS jan jaU jaE jar jaL jah jaB jaa jaz jaH jab ja2 z0_s jaq jai jaO jaA jat jau jav jaj jas jaJ jak jad jay jac jaQ cyI ja9 ja5 cyI jbv) → va_S A s.heap H locs → lv_has ls 8 [(0, .ref a0), (1, .int l1), (2, .int l2), (3, .int l3)] → K27 jbd ja9 l1 l2 l3 → W p l e (headSpec wsX11_watch ({ frames := 2, cells := 0, slots := 0, locals := 42 })).room s m args below meth c H locs 0 0 (MQ below (va_Qi (fun (r : Int32) (u : Int32 × NI) => Q r u.1 u.2) (cB (dC, dI) (kT cyB cyI cyJ cyP) A (fun u : Int32 × NI => ((qbu a0 u.1 jaQ jaD ja7 jby jbe jaM jaY jap jaK jal jam jax jao ja5 jaV ja8 jae jag jaf jaN ja4 jaP jaw jaI jaZ jaG jaS jan jaU jaE jar jaL jah jaB jaa jaz jaH jab ja2 z0_s jaq jai jaO jaA jat jau jav jaj jas jaJ jak jad jay jac jaQ cyI u.2 ja5 cyI jbv) : va_W))) A) args s 0 0 A) (F0 m 27 ls [])) (hK43 : ∀ (H : Heap) (locs : List Loc) (ls : Array Slot) (jbd : Int32) (ja9 : NI) (l1 l2 l3 l4 l5 : Int32), va_P (dC, dI) vwCl (qbu a0 jbd jaQ jaD ja7 jby jbe jaM jaY jap jaK jal jam jax jao ja5 jaV ja8 jae jag jaf jaN ja4 jaP jaw jaI jaZ jaG jaS jan jaU jaE jar jaL jah jaB jaa jaz jaH jab ja2 z0_s jaq jai jaO jaA jat jau jav jaj jas jaJ jak jad jay jac jaQ cyI ja9 ja5 cyI jbv) H → va_D A (qbu a0 jbd jaQ jaD ja7 jby jbe jaM jaY jap jaK jal jam jax jao ja5 jaV ja8 jae jag jaf jaN ja4 jaP jaw jaI jaZ jaG jaS jan jaU jaE jar jaL jah jaB jaa jaz jaH jab ja2 z0_s jaq jai jaO jaA jat jau jav jaj jas jaJ jak jad jay jac jaQ cyI ja9 ja5 cyI jbv) → va_S A s.heap H locs → lv_has ls 8 [(0, .ref a0), (1, .int l1), (2, .int l2), (3, .int l3), (4, .int l4), (5, .int l5)] → K43 jbd ja9 l1 l2 l3 l4 l5 → W p l e (headSpec wsX11_watch ({ frames := 2, cells := 0, slots := 0, locals := 42 })).room s m args below meth c H locs 0 0 (MQ below (va_Qi (fun (r : Int32) (u : Int32 × NI) => Q r u.1 u.2) (cB (dC, dI) (kT cyB cyI cyJ cyP) A (fun u : Int32 × NI => ((qbu a0 u.1 jaQ jaD ja7 jby jbe jaM jaY jap jaK jal jam jax jao ja5 jaV ja8 jae jag jaf jaN ja4 jaP jaw jaI jaZ jaG jaS jan jaU jaE jar jaL jah jaB jaa jaz jaH jab ja2 z0_s jaq jai jaO jaA jat jau jav jaj jas jaJ jak jad jay jac jaQ cyI u.2 ja5 cyI jbv) : va_W))) A) args s 0 0 A) (F0 m 43 ls [])) (C0 : cfx p s m args meth c cX11_watch (some .int) wsX11_watch RX11 8 A (dC, dI) (kT cyB cyI cyJ cyP)) : ∀ (n : Nat) (H : Heap) (locs : List Loc) (ls : Array Slot) (jbd : Int32) (ja9 : NI) (l1 l2 l3 l4 l5 l6 l7 : Int32), va_P (dC, dI) vwCl (qbu a0 jbd jaQ jaD ja7 jby jbe jaM jaY jap jaK jal jam jax jao ja5 jaV ja8 jae jag jaf jaN ja4 jaP jaw jaI jaZ jaG jaS jan jaU jaE jar jaL jah jaB jaa jaz jaH jab ja2 z0_s jaq jai jaO jaA jat jau jav jaj jas jaJ jak jad jay jac jaQ cyI ja9 ja5 cyI jbv) H → va_D A (qbu a0 jbd jaQ jaD ja7 jby jbe jaM jaY jap jaK jal jam jax jao ja5 jaV ja8 jae jag jaf jaN ja4 jaP jaw jaI jaZ jaG jaS jan jaU jaE jar jaL jah jaB jaa jaz jaH jab ja2 z0_s jaq jai jaO jaA jat jau jav jaj jas jaJ jak jad jay jac jaQ cyI ja9 ja5 cyI jbv) → va_S A s.heap H locs → lv_has ls 8 [(0, .ref a0), (1, .int l1), (2, .int l2), (3, .int l3), (4, .int l4), (5, .int l5), (6, .int l6), (7, .int l7)] → qpn jaN jbv Q K27 K43 n jbd ja9 l1 l2 l3 l4 l5 l6 l7 → W p l e (headSpec wsX11_watch ({ frames := 2, cells := 0, slots := 0, locals := 42 })).room s m args below meth c H locs 0 0 (MQ below (va_Qi (fun (r : Int32) (u : Int32 × NI) => Q r u.1 u.2) (cB (dC, dI) (kT cyB cyI cyJ cyP) A (fun u : Int32 × NI => ((qbu a0 u.1 jaQ jaD ja7 jby jbe jaM jaY jap jaK jal jam jax jao ja5 jaV ja8 jae jag jaf jaN ja4 jaP jaw jaI jaZ jaG jaS jan jaU jaE jar jaL jah jaB jaa jaz jaH jab ja2 z0_s jaq jai jaO jaA jat jau jav jaj jas jaJ jak jad jay jac jaQ cyI u.2 ja5 cyI jbv) : va_W))) A) args s 0 0 A) (F0 m 58 ls []) := by
  obtain ⟨hx, hb, hr, hts, hown, hlocks, hml, hA, hK, hNw⟩ := id C0
  intro n
  induction n with
  | zero => intro H locs ls jbd ja9 l1 l2 l3 l4 l5 l6 l7 hP hD hS hl hw; exact False.elim hw
  | succ n ih =>
    intro H locs ls jbd ja9 l1 l2 l3 l4 l5 l6 l7 hP hD hS hl hw
    refine lv_iload hx hb (qaa qhf 4 rfl) (lv_at hl 7 rfl) ?_
    refine lv_aload_n hx hb (qaa qhf 5 rfl) rfl (lv_at hl 0 rfl) ?_
    refine va_get (D := (dC, dI)) (ci := 11) (v := .int jaN) (C := RX11) (T := TX11) (N := 55) hx hb hts qEI hown hK hP 0 rfl rfl 20 (by decide) (hts _ qJF) (fun _ h9 => h9) rfl (qaa qhf 6 rfl) ?_
    refine lv_icmp_ge (tgt := 107) hx hb (qaa qhf 7 rfl) (by decide) (fun c14 => ?_) (fun c14 => ?_)
    · have hw := hw.1 c14
      refine lv_iload hx hb (qaa qhJ 13 rfl) (lv_at hl 4 rfl) ?_
      refine lv_if_eq (tgt := 121) hx hb (qaa qhJ 14 rfl) (by decide) (fun c15 => ?_) (fun c15 => ?_)
      · have hw := hw.1 c15
        exact qZt dC dI cyB cyI cyJ cyP a0 jaQ ja5 jaD ja7 jby jbe jaM jaY jap jaK jal jam jax jao jaV ja8 jae jag jaf ja4 jaP jaw jaI jaZ jaG jaS jan jaU jaE jar jaL jah jaB jaa jaz jaH jab ja2 z0_s jaq jai jaO jaA jat jau jav jaj jas jaJ jak jad jay jac jaN jbv Q K27 K43 hK27 hK43 C0 _ _ _ jbd ja9 l1 l2 l3 l5 hP hD hS (lv_sub hl [0, 1, 2, 3, 5] rfl) hw
      · have hw := hw.2 c15
        refine lv_iload hx hb (qaa qhJ 15 rfl) (lv_at hl 6 rfl) ?_
        refine lv_if_eq (tgt := 121) hx hb (qaa qfd 0 rfl) (by decide) (fun c16 => ?_) (fun c16 => ?_)
        · have hw := hw.1 c16
          exact qZt dC dI cyB cyI cyJ cyP a0 jaQ ja5 jaD ja7 jby jbe jaM jaY jap jaK jal jam jax jao jaV ja8 jae jag jaf ja4 jaP jaw jaI jaZ jaG jaS jan jaU jaE jar jaL jah jaB jaa jaz jaH jab ja2 z0_s jaq jai jaO jaA jat jau jav jaj jas jaJ jak jad jay jac jaN jbv Q K27 K43 hK27 hK43 C0 _ _ _ jbd ja9 l1 l2 l3 l5 hP hD hS (lv_sub hl [0, 1, 2, 3, 5] rfl) hw
        · have hw := hw.2 c16
          refine lv_iconst (v := 1) hx hb (qaa qfd 1 rfl) (by decide) ?_
          refine lv_goto (tgt := 122) hx hb (qaa qfd 2 rfl) (by decide) ?_
          exact qY2 dC dI cyB cyI cyJ cyP a0 jaQ ja5 jaD ja7 jby jbe jaM jaY jap jaK jal jam jax jao jaV ja8 jae jag jaf ja4 jaP jaw jaI jaZ jaG jaS jan jaU jaE jar jaL jah jaB jaa jaz jaH jab ja2 z0_s jaq jai jaO jaA jat jau jav jaj jas jaJ jak jad jay jac jaN jbv Q K27 K43 hK27 hK43 C0 _ _ _ jbd ja9 l1 l2 l3 l5 1 hP hD hS (lv_sub hl [0, 1, 2, 3, 5] rfl) hw
    · have hw := hw.2 c14
      refine lv_iload hx hb (qaa qhf 8 rfl) (lv_at hl 6 rfl) ?_
      refine lv_if_ne (tgt := 94) hx hb (qaa qhf 9 rfl) (by decide) (fun c17 => ?_) (fun c17 => ?_)
      · have hw := hw.1 c17
        exact q07 dC dI cyB cyI cyJ cyP a0 jaQ ja5 jaD ja7 jby jbe jaM jaY jap jaK jal jam jax jao jaV ja8 jae jag jaf ja4 jaP jaw jaI jaZ jaG jaS jan jaU jaE jar jaL jah jaB jaa jaz jaH jab ja2 z0_s jaq jai jaO jaA jat jau jav jaj jas jaJ jak jad jay jac jaN jbv Q K27 K43 (qpn jaN jbv Q K27 K43 n) hK27 hK43 ih C0 _ _ _ jbd ja9 l1 l2 l3 l4 l5 l7 hP hD hS (lv_sub hl [0, 1, 2, 3, 4, 5, 7] rfl) hw
      · have hw := hw.2 c17
        refine lv_iload_n hx hb (qaa qhf 10 rfl) rfl (lv_at hl 3 rfl) ?_
        refine lv_iload hx hb (qaa qhf 11 rfl) (lv_at hl 7 rfl) ?_
        refine lv_ishr hx hb (qaa qhf 12 rfl) ?_
        refine lv_iconst (v := 1) hx hb (qaa qhf 13 rfl) (by decide) ?_
        refine lv_iand hx hb (qaa qhf 14 rfl) ?_
        refine lv_iconst (v := 1) hx hb (qaa qhf 15 rfl) (by decide) ?_
        refine lv_icmp_ne (tgt := 98) hx hb (qaa qhJ 0 rfl) (by decide) (fun c18 => ?_) (fun c18 => ?_)
        · have hw := hw.1 c18
          exact q3S dC dI cyB cyI cyJ cyP a0 jaQ ja5 jaD ja7 jby jbe jaM jaY jap jaK jal jam jax jao jaV ja8 jae jag jaf ja4 jaP jaw jaI jaZ jaG jaS jan jaU jaE jar jaL jah jaB jaa jaz jaH jab ja2 z0_s jaq jai jaO jaA jat jau jav jaj jas jaJ jak jad jay jac jaN jbv Q K27 K43 (qpn jaN jbv Q K27 K43 n) hK27 hK43 ih C0 _ _ _ jbd ja9 l1 l2 l3 l4 l5 l7 hP hD hS (lv_sub hl [0, 1, 2, 3, 4, 5, 7] rfl) hw
        · have hw := hw.2 c18
          refine lv_aload_n hx hb (qaa qhJ 1 rfl) rfl (lv_at hl 0 rfl) ?_
          refine lv_iload hx hb (qaa qhJ 2 rfl) (lv_at hl 5 rfl) ?_
          refine lv_iload hx hb (qaa qhJ 3 rfl) (lv_at hl 7 rfl) ?_
          obtain ⟨hCc, hPc, hDc, hFc⟩ := qac (ws' := (qa9r a0 jbd jaQ jaD ja7 jby jbe jaM jaY jap jaK jal jam jax jao ja5 jaV ja8 jae jag jaf jaN ja4 jaP jaw jaI jaZ jaG jaS jan jaU jaE jar jaL jah jaB jaa jaz jaH jab ja2 z0_s jaq jai jaO jaA jat jau jav jaj jas jaJ jak jad jay jac ja5 cyI jbv)) hP hD hS hA [0, 2] (by decide +kernel) rfl
          refine va_calli (va_runV (As := [.int l5, .int l7]) (rest := []) ⟨hx, hb, hml, hown, hts⟩ (qvj l dC dI cyB cyI cyJ cyP a0 ja5 H.size (.int jbd) (.ref jaQ) (jaD) (ja7) (jby) (jbe) (jaM) (jaY) (jap) (jaK) (jal) (jam) (jax) (jao) (jaV) (ja8) (jae) (jag) (jaf) (.int jaN) (ja4) (jaP) (jaw) (jaI) (jaZ) (jaG) (jaS) (jan) (jaU) (jaE) (jar) (jaL) (jah) (jaB) (jaa) (jaz) (jaH) (jab) (ja2) (z0_s) (jaq) (jai) (jaO) (jaA) (jat) (jau) (jav) (jaj) (jas) (jaJ) (jak) (jad) (jay) (jac) jbv l5 l7 hw) (cwV 2 hts gX11_watch_X11_farOf rfl rfl rfl (by decide +kernel) ⟨nbq rfl, nbq rfl⟩) ⟨qab, va_recv (q := (RX11, TX11, 55)) hK hPc (ci := 11) (q0 := 0) rfl rfl, qae hPc hK hDc hNw⟩ rfl rfl hl.1 rfl (lv_room (nbq rfl)) (qaa qhJ 4 rfl) ⟨nbq rfl, nbq rfl⟩) hS (fun q _ h => hFc q h) hFc (fun r19 u t H1 locs ht hvm hw hB hz1 hk1 hS => ?_)
          obtain ⟨hP1, hK1, hD1⟩ := hB
          rw [ht] at hP1
          obtain ⟨hP, hD⟩ := qad (wr := (qbcD jaQ cyI ja9)) (w1 := (qa9r a0 jbd jaQ jaD ja7 jby jbe jaM jaY jap jaK jal jam jax jao ja5 jaV ja8 jae jag jaf jaN ja4 jaP jaw jaI jaZ jaG jaS jan jaU jaE jar jaL jah jaB jaa jaz jaH jab ja2 z0_s jaq jai jaO jaA jat jau jav jaj jas jaJ jak jad jay jac ja5 cyI jbv)) (wn := (qbu a0 jbd jaQ jaD ja7 jby jbe jaM jaY jap jaK jal jam jax jao ja5 jaV ja8 jae jag jaf jaN ja4 jaP jaw jaI jaZ jaG jaS jan jaU jaE jar jaL jah jaB jaa jaz jaH jab ja2 z0_s jaq jai jaO jaA jat jau jav jaj jas jaJ jak jad jay jac jaQ cyI ja9 ja5 cyI jbv)) hP hD [0, 2] [1] [1, 0, 2] hCc rfl (by decide +kernel) (by decide +kernel) (by decide +kernel) rfl hk1 hFc hP1 hD1
          generalize H1 = H at hP hS ⊢
          refine lv_iload_n hx hb (qaa qhJ 5 rfl) rfl (lv_at hl 1 rfl) ?_
          refine lv_icmp_gt (tgt := 98) hx hb (qaa qhJ 6 rfl) (by decide) (fun c20 => ?_) (fun c20 => ?_)
          · have hw := hw.1 c20
            exact q3S dC dI cyB cyI cyJ cyP a0 jaQ ja5 jaD ja7 jby jbe jaM jaY jap jaK jal jam jax jao jaV ja8 jae jag jaf ja4 jaP jaw jaI jaZ jaG jaS jan jaU jaE jar jaL jah jaB jaa jaz jaH jab ja2 z0_s jaq jai jaO jaA jat jau jav jaj jas jaJ jak jad jay jac jaN jbv Q K27 K43 (qpn jaN jbv Q K27 K43 n) hK27 hK43 ih C0 _ _ _ jbd ja9 l1 l2 l3 l4 l5 l7 hP hD hS (lv_sub hl [0, 1, 2, 3, 4, 5, 7] rfl) hw
          · have hw := hw.2 c20
            exact q07 dC dI cyB cyI cyJ cyP a0 jaQ ja5 jaD ja7 jby jbe jaM jaY jap jaK jal jam jax jao jaV ja8 jae jag jaf ja4 jaP jaw jaI jaZ jaG jaS jan jaU jaE jar jaL jah jaB jaa jaz jaH jab ja2 z0_s jaq jai jaO jaA jat jau jav jaj jas jaJ jak jad jay jac jaN jbv Q K27 K43 (qpn jaN jbv Q K27 K43 n) hK27 hK43 ih C0 _ _ _ jbd ja9 l1 l2 l3 l4 l5 l7 hP hD hS (lv_sub hl [0, 1, 2, 3, 4, 5, 7] rfl) hw
set_option maxHeartbeats 4000000 in
set_option maxRecDepth 100000 in
theorem qMd {p : Program} {l : Launch} {e : Env} {s : State} {m : MethodId} {args : Array Value} {below : List Frame} {meth : Method} {c : Code} {A : Nat → Prop} (dC : Nat → ClassId) (dI : Nat → Nat → Nat) (cyB cyI cyJ cyP : ClassId) (a0 jaQ ja5 : Nat) (jaD ja7 jby jbe jaM jaY jap jaK jal jam jax jao jaV ja8 jae jag jaf ja4 jaP jaw jaI jaZ jaG jaS jan jaU jaE jar jaL jah jaB jaa jaz jaH jab ja2 z0_s jaq jai jaO jaA jat jau jav jaj jas jaJ jak jad jay jac : Value) (jaN : Int32) (jbv : NI) (Q : Int32 → Int32 → NI → Prop) (K27 : Int32 → NI → Int32 → Int32 → Int32 → Prop) (hK27 : ∀ (H : Heap) (locs : List Loc) (ls : Array Slot) (jbd : Int32) (ja9 : NI) (l1 l2 l3 : Int32), va_P (dC, dI) vwCl (qbu a0 jbd jaQ jaD ja7 jby jbe jaM jaY jap jaK jal jam jax jao ja5 jaV ja8 jae jag jaf jaN ja4 jaP jaw jaI jaZ jaG jaS jan jaU jaE jar jaL jah jaB jaa jaz jaH jab ja2 z0_s jaq jai jaO jaA jat jau jav jaj jas jaJ jak jad jay jac jaQ cyI ja9 ja5 cyI jbv) H → va_D A (qbu a0 jbd jaQ jaD ja7 jby jbe jaM jaY jap jaK jal jam jax jao ja5 jaV ja8 jae jag jaf jaN ja4 jaP jaw jaI jaZ jaG jaS jan jaU jaE jar jaL jah jaB jaa jaz jaH jab ja2 z0_s jaq jai jaO jaA jat jau jav jaj jas jaJ jak jad jay jac jaQ cyI ja9 ja5 cyI jbv) → va_S A s.heap H locs → lv_has ls 8 [(0, .ref a0), (1, .int l1), (2, .int l2), (3, .int l3)] → K27 jbd ja9 l1 l2 l3 → W p l e (headSpec wsX11_watch ({ frames := 2, cells := 0, slots := 0, locals := 42 })).room s m args below meth c H locs 0 0 (MQ below (va_Qi (fun (r : Int32) (u : Int32 × NI) => Q r u.1 u.2) (cB (dC, dI) (kT cyB cyI cyJ cyP) A (fun u : Int32 × NI => ((qbu a0 u.1 jaQ jaD ja7 jby jbe jaM jaY jap jaK jal jam jax jao ja5 jaV ja8 jae jag jaf jaN ja4 jaP jaw jaI jaZ jaG jaS jan jaU jaE jar jaL jah jaB jaa jaz jaH jab ja2 z0_s jaq jai jaO jaA jat jau jav jaj jas jaJ jak jad jay jac jaQ cyI u.2 ja5 cyI jbv) : va_W))) A) args s 0 0 A) (F0 m 27 ls [])) (C0 : cfx p s m args meth c cX11_watch (some .int) wsX11_watch RX11 8 A (dC, dI) (kT cyB cyI cyJ cyP)) : ∀ (H : Heap) (locs : List Loc) (ls : Array Slot) (jbd : Int32) (ja9 : NI) (l1 l2 l3 : Int32), va_P (dC, dI) vwCl (qbu a0 jbd jaQ jaD ja7 jby jbe jaM jaY jap jaK jal jam jax jao ja5 jaV ja8 jae jag jaf jaN ja4 jaP jaw jaI jaZ jaG jaS jan jaU jaE jar jaL jah jaB jaa jaz jaH jab ja2 z0_s jaq jai jaO jaA jat jau jav jaj jas jaJ jak jad jay jac jaQ cyI ja9 ja5 cyI jbv) H → va_D A (qbu a0 jbd jaQ jaD ja7 jby jbe jaM jaY jap jaK jal jam jax jao ja5 jaV ja8 jae jag jaf jaN ja4 jaP jaw jaI jaZ jaG jaS jan jaU jaE jar jaL jah jaB jaa jaz jaH jab ja2 z0_s jaq jai jaO jaA jat jau jav jaj jas jaJ jak jad jay jac jaQ cyI ja9 ja5 cyI jbv) → va_S A s.heap H locs → lv_has ls 8 [(0, .ref a0), (1, .int l1), (2, .int l2), (3, .int l3)] → qE4 jaN jbv Q K27 jbd ja9 l1 l2 l3 → W p l e (headSpec wsX11_watch ({ frames := 2, cells := 0, slots := 0, locals := 42 })).room s m args below meth c H locs 0 0 (MQ below (va_Qi (fun (r : Int32) (u : Int32 × NI) => Q r u.1 u.2) (cB (dC, dI) (kT cyB cyI cyJ cyP) A (fun u : Int32 × NI => ((qbu a0 u.1 jaQ jaD ja7 jby jbe jaM jaY jap jaK jal jam jax jao ja5 jaV ja8 jae jag jaf jaN ja4 jaP jaw jaI jaZ jaG jaS jan jaU jaE jar jaL jah jaB jaa jaz jaH jab ja2 z0_s jaq jai jaO jaA jat jau jav jaj jas jaJ jak jad jay jac jaQ cyI u.2 ja5 cyI jbv) : va_W))) A) args s 0 0 A) (F0 m 153 ls []) := by
  obtain ⟨hx, hb, hr, hts, hown, hlocks, hml, hA, hK, hNw⟩ := id C0
  intro H locs ls jbd ja9 l1 l2 l3 hP hD hS hl hw
  obtain ⟨x13, ex13⟩ : ∃ y : Int32, y = l3 + 1 := ⟨_, rfl⟩
  have hw := hw x13 ex13
  refine lv_iinc (v := x13) (lv' := [(3, .int x13), (0, .ref a0), (1, .int l1), (2, .int l2)]) hx hb (qaa quI 3 rfl) hl (k := 3) rfl (by rw [ex13]; rfl) (by decide) rfl (fun ls hl => ?_)
  refine lv_goto (tgt := 27) hx hb (qaa quI 4 rfl) (by decide) ?_
  exact hK27 _ _ _ jbd ja9 l1 l2 x13 hP hD hS (lv_sub hl [1, 2, 3, 0] rfl) hw
set_option maxHeartbeats 4000000 in
set_option maxRecDepth 100000 in
theorem qZC {p : Program} {l : Launch} {e : Env} {s : State} {m : MethodId} {args : Array Value} {below : List Frame} {meth : Method} {c : Code} {A : Nat → Prop} (dC : Nat → ClassId) (dI : Nat → Nat → Nat) (cyB cyI cyJ cyP : ClassId) (a0 jaQ ja5 : Nat) (jaD ja7 jby jbe jaM jaY jap jaK jal jam jax jao jaV ja8 jae jag jaf ja4 jaP jaw jaI jaZ jaG jaS jan jaU jaE jar jaL jah jaB jaa jaz jaH jab ja2 z0_s jaq jai jaO jaA jat jau jav jaj jas jaJ jak jad jay jac : Value) (jaN : Int32) (jbv : NI) (Q : Int32 → Int32 → NI → Prop) (K27 : Int32 → NI → Int32 → Int32 → Int32 → Prop) (hK27 : ∀ (H : Heap) (locs : List Loc) (ls : Array Slot) (jbd : Int32) (ja9 : NI) (l1 l2 l3 : Int32), va_P (dC, dI) vwCl (qbu a0 jbd jaQ jaD ja7 jby jbe jaM jaY jap jaK jal jam jax jao ja5 jaV ja8 jae jag jaf jaN ja4 jaP jaw jaI jaZ jaG jaS jan jaU jaE jar jaL jah jaB jaa jaz jaH jab ja2 z0_s jaq jai jaO jaA jat jau jav jaj jas jaJ jak jad jay jac jaQ cyI ja9 ja5 cyI jbv) H → va_D A (qbu a0 jbd jaQ jaD ja7 jby jbe jaM jaY jap jaK jal jam jax jao ja5 jaV ja8 jae jag jaf jaN ja4 jaP jaw jaI jaZ jaG jaS jan jaU jaE jar jaL jah jaB jaa jaz jaH jab ja2 z0_s jaq jai jaO jaA jat jau jav jaj jas jaJ jak jad jay jac jaQ cyI ja9 ja5 cyI jbv) → va_S A s.heap H locs → lv_has ls 8 [(0, .ref a0), (1, .int l1), (2, .int l2), (3, .int l3)] → K27 jbd ja9 l1 l2 l3 → W p l e (headSpec wsX11_watch ({ frames := 2, cells := 0, slots := 0, locals := 42 })).room s m args below meth c H locs 0 0 (MQ below (va_Qi (fun (r : Int32) (u : Int32 × NI) => Q r u.1 u.2) (cB (dC, dI) (kT cyB cyI cyJ cyP) A (fun u : Int32 × NI => ((qbu a0 u.1 jaQ jaD ja7 jby jbe jaM jaY jap jaK jal jam jax jao ja5 jaV ja8 jae jag jaf jaN ja4 jaP jaw jaI jaZ jaG jaS jan jaU jaE jar jaL jah jaB jaa jaz jaH jab ja2 z0_s jaq jai jaO jaA jat jau jav jaj jas jaJ jak jad jay jac jaQ cyI u.2 ja5 cyI jbv) : va_W))) A) args s 0 0 A) (F0 m 27 ls [])) (C0 : cfx p s m args meth c cX11_watch (some .int) wsX11_watch RX11 8 A (dC, dI) (kT cyB cyI cyJ cyP)) : ∀ (H : Heap) (locs : List Loc) (ls : Array Slot) (jbd : Int32) (ja9 : NI) (l1 l3 : Int32), va_P (dC, dI) vwCl (qbu a0 jbd jaQ jaD ja7 jby jbe jaM jaY jap jaK jal jam jax jao ja5 jaV ja8 jae jag jaf jaN ja4 jaP jaw jaI jaZ jaG jaS jan jaU jaE jar jaL jah jaB jaa jaz jaH jab ja2 z0_s jaq jai jaO jaA jat jau jav jaj jas jaJ jak jad jay jac jaQ cyI ja9 ja5 cyI jbv) H → va_D A (qbu a0 jbd jaQ jaD ja7 jby jbe jaM jaY jap jaK jal jam jax jao ja5 jaV ja8 jae jag jaf jaN ja4 jaP jaw jaI jaZ jaG jaS jan jaU jaE jar jaL jah jaB jaa jaz jaH jab ja2 z0_s jaq jai jaO jaA jat jau jav jaj jas jaJ jak jad jay jac jaQ cyI ja9 ja5 cyI jbv) → va_S A s.heap H locs → lv_has ls 8 [(0, .ref a0), (1, .int l1), (3, .int l3)] → qMD jaN jbv Q K27 jbd ja9 l1 l3 → W p l e (headSpec wsX11_watch ({ frames := 2, cells := 0, slots := 0, locals := 42 })).room s m args below meth c H locs 0 0 (MQ below (va_Qi (fun (r : Int32) (u : Int32 × NI) => Q r u.1 u.2) (cB (dC, dI) (kT cyB cyI cyJ cyP) A (fun u : Int32 × NI => ((qbu a0 u.1 jaQ jaD ja7 jby jbe jaM jaY jap jaK jal jam jax jao ja5 jaV ja8 jae jag jaf jaN ja4 jaP jaw jaI jaZ jaG jaS jan jaU jaE jar jaL jah jaB jaa jaz jaH jab ja2 z0_s jaq jai jaO jaA jat jau jav jaj jas jaJ jak jad jay jac jaQ cyI u.2 ja5 cyI jbv) : va_W))) A) args s 0 0 A) (F0 m 151 ls []) := by
  obtain ⟨hx, hb, hr, hts, hown, hlocks, hml, hA, hK, hNw⟩ := id C0
  intro H locs ls jbd ja9 l1 l3 hP hD hS hl hw
  refine lv_iload_n hx hb (qaa quI 1 rfl) rfl (lv_at hl 2 rfl) ?_
  refine lv_istore_n (lv' := [(2, .int l3), (0, .ref a0), (1, .int l1), (3, .int l3)]) hx hb (qaa quI 2 rfl) rfl hl (by decide) rfl (fun ls hl => ?_)
  exact qMd dC dI cyB cyI cyJ cyP a0 jaQ ja5 jaD ja7 jby jbe jaM jaY jap jaK jal jam jax jao jaV ja8 jae jag jaf ja4 jaP jaw jaI jaZ jaG jaS jan jaU jaE jar jaL jah jaB jaa jaz jaH jab ja2 z0_s jaq jai jaO jaA jat jau jav jaj jas jaJ jak jad jay jac jaN jbv Q K27 hK27 C0 _ _ _ jbd ja9 l1 l3 l3 hP hD hS (lv_sub hl [1, 2, 0, 3] rfl) hw
set_option maxHeartbeats 4000000 in
set_option maxRecDepth 100000 in
theorem qav4 {p : Program} {l : Launch} {e : Env} {s : State} {m : MethodId} {args : Array Value} {below : List Frame} {meth : Method} {c : Code} {A : Nat → Prop} (dC : Nat → ClassId) (dI : Nat → Nat → Nat) (cyB cyI cyJ cyP : ClassId) (a0 jaQ ja5 : Nat) (jaD ja7 jby jbe jaM jaY jap jaK jal jam jax jao jaV ja8 jae jag jaf ja4 jaP jaw jaI jaZ jaG jaS jan jaU jaE jar jaL jah jaB jaa jaz jaH jab ja2 z0_s jaq jai jaO jaA jat jau jav jaj jas jaJ jak jad jay jac : Value) (jaN : Int32) (jbv : NI) (Q : Int32 → Int32 → NI → Prop) (K27 : Int32 → NI → Int32 → Int32 → Int32 → Prop) (hK27 : ∀ (H : Heap) (locs : List Loc) (ls : Array Slot) (jbd : Int32) (ja9 : NI) (l1 l2 l3 : Int32), va_P (dC, dI) vwCl (qbu a0 jbd jaQ jaD ja7 jby jbe jaM jaY jap jaK jal jam jax jao ja5 jaV ja8 jae jag jaf jaN ja4 jaP jaw jaI jaZ jaG jaS jan jaU jaE jar jaL jah jaB jaa jaz jaH jab ja2 z0_s jaq jai jaO jaA jat jau jav jaj jas jaJ jak jad jay jac jaQ cyI ja9 ja5 cyI jbv) H → va_D A (qbu a0 jbd jaQ jaD ja7 jby jbe jaM jaY jap jaK jal jam jax jao ja5 jaV ja8 jae jag jaf jaN ja4 jaP jaw jaI jaZ jaG jaS jan jaU jaE jar jaL jah jaB jaa jaz jaH jab ja2 z0_s jaq jai jaO jaA jat jau jav jaj jas jaJ jak jad jay jac jaQ cyI ja9 ja5 cyI jbv) → va_S A s.heap H locs → lv_has ls 8 [(0, .ref a0), (1, .int l1), (2, .int l2), (3, .int l3)] → K27 jbd ja9 l1 l2 l3 → W p l e (headSpec wsX11_watch ({ frames := 2, cells := 0, slots := 0, locals := 42 })).room s m args below meth c H locs 0 0 (MQ below (va_Qi (fun (r : Int32) (u : Int32 × NI) => Q r u.1 u.2) (cB (dC, dI) (kT cyB cyI cyJ cyP) A (fun u : Int32 × NI => ((qbu a0 u.1 jaQ jaD ja7 jby jbe jaM jaY jap jaK jal jam jax jao ja5 jaV ja8 jae jag jaf jaN ja4 jaP jaw jaI jaZ jaG jaS jan jaU jaE jar jaL jah jaB jaa jaz jaH jab ja2 z0_s jaq jai jaO jaA jat jau jav jaj jas jaJ jak jad jay jac jaQ cyI u.2 ja5 cyI jbv) : va_W))) A) args s 0 0 A) (F0 m 27 ls [])) (C0 : cfx p s m args meth c cX11_watch (some .int) wsX11_watch RX11 8 A (dC, dI) (kT cyB cyI cyJ cyP)) : ∀ (n : Nat) (H : Heap) (locs : List Loc) (ls : Array Slot) (jbd : Int32) (ja9 : NI) (l1 l2 l3 l4 l5 : Int32), va_P (dC, dI) vwCl (qbu a0 jbd jaQ jaD ja7 jby jbe jaM jaY jap jaK jal jam jax jao ja5 jaV ja8 jae jag jaf jaN ja4 jaP jaw jaI jaZ jaG jaS jan jaU jaE jar jaL jah jaB jaa jaz jaH jab ja2 z0_s jaq jai jaO jaA jat jau jav jaj jas jaJ jak jad jay jac jaQ cyI ja9 ja5 cyI jbv) H → va_D A (qbu a0 jbd jaQ jaD ja7 jby jbe jaM jaY jap jaK jal jam jax jao ja5 jaV ja8 jae jag jaf jaN ja4 jaP jaw jaI jaZ jaG jaS jan jaU jaE jar jaL jah jaB jaa jaz jaH jab ja2 z0_s jaq jai jaO jaA jat jau jav jaj jas jaJ jak jad jay jac jaQ cyI ja9 ja5 cyI jbv) → va_S A s.heap H locs → lv_has ls 8 [(0, .ref a0), (1, .int l1), (2, .int l2), (3, .int l3), (4, .int l4), (5, .int l5)] → qB9 jaN jbv Q K27 n jbd ja9 l1 l2 l3 l4 l5 → W p l e (headSpec wsX11_watch ({ frames := 2, cells := 0, slots := 0, locals := 42 })).room s m args below meth c H locs 0 0 (MQ below (va_Qi (fun (r : Int32) (u : Int32 × NI) => Q r u.1 u.2) (cB (dC, dI) (kT cyB cyI cyJ cyP) A (fun u : Int32 × NI => ((qbu a0 u.1 jaQ jaD ja7 jby jbe jaM jaY jap jaK jal jam jax jao ja5 jaV ja8 jae jag jaf jaN ja4 jaP jaw jaI jaZ jaG jaS jan jaU jaE jar jaL jah jaB jaa jaz jaH jab ja2 z0_s jaq jai jaO jaA jat jau jav jaj jas jaJ jak jad jay jac jaQ cyI u.2 ja5 cyI jbv) : va_W))) A) args s 0 0 A) (F0 m 43 ls []) := by
  obtain ⟨hx, hb, hr, hts, hown, hlocks, hml, hA, hK, hNw⟩ := id C0
  intro n
  induction n with
  | zero => intro H locs ls jbd ja9 l1 l2 l3 l4 l5 hP hD hS hl hw; exact False.elim hw
  | succ n ih =>
    intro H locs ls jbd ja9 l1 l2 l3 l4 l5 hP hD hS hl hw
    refine lv_iload hx hb (qaa qhd 12 rfl) (lv_at hl 5 rfl) ?_
    refine lv_aload_n hx hb (qaa qhd 13 rfl) rfl (lv_at hl 0 rfl) ?_
    refine va_get (D := (dC, dI)) (ci := 11) (v := .int jaN) (C := RX11) (T := TX11) (N := 55) hx hb hts qEI hown hK hP 0 rfl rfl 20 (by decide) (hts _ qJF) (fun _ h9 => h9) rfl (qaa qhd 14 rfl) ?_
    refine lv_icmp_ge (tgt := 130) hx hb (qaa qhd 15 rfl) (by decide) (fun c7 => ?_) (fun c7 => ?_)
    · have hw := hw.1 c7
      refine lv_iload hx hb (qaa qfd 7 rfl) (lv_at hl 4 rfl) ?_
      refine lv_if_eq (tgt := 153) hx hb (qaa qfd 8 rfl) (by decide) (fun c8 => ?_) (fun c8 => ?_)
      · have hw := hw.1 c8
        exact qMd dC dI cyB cyI cyJ cyP a0 jaQ ja5 jaD ja7 jby jbe jaM jaY jap jaK jal jam jax jao jaV ja8 jae jag jaf ja4 jaP jaw jaI jaZ jaG jaS jan jaU jaE jar jaL jah jaB jaa jaz jaH jab ja2 z0_s jaq jai jaO jaA jat jau jav jaj jas jaJ jak jad jay jac jaN jbv Q K27 hK27 C0 _ _ _ jbd ja9 l1 l2 l3 hP hD hS (lv_sub hl [0, 1, 2, 3] rfl) hw
      · have hw := hw.2 c8
        refine lv_iload_n hx hb (qaa qfd 9 rfl) rfl (lv_at hl 2 rfl) ?_
        refine lv_iconst (v := (-1)) hx hb (qaa qfd 10 rfl) (by decide) ?_
        refine lv_icmp_eq (tgt := 151) hx hb (qaa qfd 11 rfl) (by decide) (fun c9 => ?_) (fun c9 => ?_)
        · have hw := hw.1 c9
          exact qZC dC dI cyB cyI cyJ cyP a0 jaQ ja5 jaD ja7 jby jbe jaM jaY jap jaK jal jam jax jao jaV ja8 jae jag jaf ja4 jaP jaw jaI jaZ jaG jaS jan jaU jaE jar jaL jah jaB jaa jaz jaH jab ja2 z0_s jaq jai jaO jaA jat jau jav jaj jas jaJ jak jad jay jac jaN jbv Q K27 hK27 C0 _ _ _ jbd ja9 l1 l3 hP hD hS (lv_sub hl [0, 1, 3] rfl) hw
        · have hw := hw.2 c9
          refine lv_iload_n hx hb (qaa qfd 12 rfl) rfl (lv_at hl 3 rfl) ?_
          obtain ⟨hCc, hPc, hDc, hFc⟩ := qac (ws' := []) hP hD hS hA [] (by decide +kernel) rfl
          refine va_calli (va_runS (As := [.int l3]) (rest := []) ⟨hx, hb, hml, hown, hts⟩ (qYx l dC dI cyB cyI cyJ cyP H.size l3 hw) (va_cwS 1 hts gX11_watch_X11_ones rfl rfl rfl (by decide +kernel) ⟨nbq rfl, nbq rfl⟩) ⟨qab, qae hPc hK hDc hNw⟩ rfl rfl hl.1 rfl (lv_room (nbq rfl)) (qaa qfd 13 rfl) ⟨nbq rfl, nbq rfl⟩) hS (fun q _ h => hFc q h) hFc (fun r10 u t H1 locs ht hvm hw hB hz1 hk1 hS => ?_)
          obtain ⟨hP1, hK1, hD1⟩ := hB
          rw [ht] at hP1
          obtain ⟨hP, hD⟩ := qah (wr := (qbu a0 jbd jaQ jaD ja7 jby jbe jaM jaY jap jaK jal jam jax jao ja5 jaV ja8 jae jag jaf jaN ja4 jaP jaw jaI jaZ jaG jaS jan jaU jaE jar jaL jah jaB jaa jaz jaH jab ja2 z0_s jaq jai jaO jaA jat jau jav jaj jas jaJ jak jad jay jac jaQ cyI ja9 ja5 cyI jbv)) (w1 := []) (wn := (qbu a0 jbd jaQ jaD ja7 jby jbe jaM jaY jap jaK jal jam jax jao ja5 jaV ja8 jae jag jaf jaN ja4 jaP jaw jaI jaZ jaG jaS jan jaU jaE jar jaL jah jaB jaa jaz jaH jab ja2 z0_s jaq jai jaO jaA jat jau jav jaj jas jaJ jak jad jay jac jaQ cyI ja9 ja5 cyI jbv)) hP hD [] [0, 1, 2] hCc rfl (by decide +kernel) (by decide +kernel) rfl hk1 hFc hP1 hD1
          generalize H1 = H at hP hS ⊢
          refine lv_iload_n hx hb (qaa qfd 14 rfl) rfl (lv_at hl 2 rfl) ?_
          obtain ⟨hCc, hPc, hDc, hFc⟩ := qac (ws' := []) hP hD hS hA [] (by decide +kernel) rfl
          refine va_calli (va_runS (As := [.int l2]) (rest := [.int r10]) ⟨hx, hb, hml, hown, hts⟩ (qYx l dC dI cyB cyI cyJ cyP H.size l2 hw) (va_cwS 1 hts gX11_watch_X11_ones rfl rfl rfl (by decide +kernel) ⟨nbq rfl, nbq rfl⟩) ⟨qab, qae hPc hK hDc hNw⟩ rfl rfl hl.1 rfl (lv_room (nbq rfl)) (qaa qfd 15 rfl) ⟨nbq rfl, nbq rfl⟩) hS (fun q _ h => hFc q h) hFc (fun r11 u t H1 locs ht hvm hw hB hz1 hk1 hS => ?_)
          obtain ⟨hP1, hK1, hD1⟩ := hB
          rw [ht] at hP1
          obtain ⟨hP, hD⟩ := qah (wr := (qbu a0 jbd jaQ jaD ja7 jby jbe jaM jaY jap jaK jal jam jax jao ja5 jaV ja8 jae jag jaf jaN ja4 jaP jaw jaI jaZ jaG jaS jan jaU jaE jar jaL jah jaB jaa jaz jaH jab ja2 z0_s jaq jai jaO jaA jat jau jav jaj jas jaJ jak jad jay jac jaQ cyI ja9 ja5 cyI jbv)) (w1 := []) (wn := (qbu a0 jbd jaQ jaD ja7 jby jbe jaM jaY jap jaK jal jam jax jao ja5 jaV ja8 jae jag jaf jaN ja4 jaP jaw jaI jaZ jaG jaS jan jaU jaE jar jaL jah jaB jaa jaz jaH jab ja2 z0_s jaq jai jaO jaA jat jau jav jaj jas jaJ jak jad jay jac jaQ cyI ja9 ja5 cyI jbv)) hP hD [] [0, 1, 2] hCc rfl (by decide +kernel) (by decide +kernel) rfl hk1 hFc hP1 hD1
          generalize H1 = H at hP hS ⊢
          refine lv_icmp_ge (tgt := 153) hx hb (qaa quI 0 rfl) (by decide) (fun c12 => ?_) (fun c12 => ?_)
          · have hw := hw.1 c12
            exact qMd dC dI cyB cyI cyJ cyP a0 jaQ ja5 jaD ja7 jby jbe jaM jaY jap jaK jal jam jax jao jaV ja8 jae jag jaf ja4 jaP jaw jaI jaZ jaG jaS jan jaU jaE jar jaL jah jaB jaa jaz jaH jab ja2 z0_s jaq jai jaO jaA jat jau jav jaj jas jaJ jak jad jay jac jaN jbv Q K27 hK27 C0 _ _ _ jbd ja9 l1 l2 l3 hP hD hS (lv_sub hl [0, 1, 2, 3] rfl) hw
          · have hw := hw.2 c12
            exact qZC dC dI cyB cyI cyJ cyP a0 jaQ ja5 jaD ja7 jby jbe jaM jaY jap jaK jal jam jax jao jaV ja8 jae jag jaf ja4 jaP jaw jaI jaZ jaG jaS jan jaU jaE jar jaL jah jaB jaa jaz jaH jab ja2 z0_s jaq jai jaO jaA jat jau jav jaj jas jaJ jak jad jay jac jaN jbv Q K27 hK27 C0 _ _ _ jbd ja9 l1 l3 hP hD hS (lv_sub hl [0, 1, 3] rfl) hw
    · have hw := hw.2 c7
      refine lv_iconst (v := 0) hx hb (qaa qhf 0 rfl) (by decide) ?_
      refine lv_istore (lv' := [(6, .int 0), (0, .ref a0), (1, .int l1), (2, .int l2), (3, .int l3), (4, .int l4), (5, .int l5)]) hx hb (qaa qhf 1 rfl) hl (by decide) rfl (fun ls hl => ?_)
      refine lv_iconst (v := 0) hx hb (qaa qhf 2 rfl) (by decide) ?_
      refine lv_istore (lv' := [(7, .int 0), (6, .int 0), (0, .ref a0), (1, .int l1), (2, .int l2), (3, .int l3), (4, .int l4), (5, .int l5)]) hx hb (qaa qhf 3 rfl) hl (by decide) rfl (fun ls hl => ?_)
      obtain ⟨n9, hw⟩ := hw
      exact qavr dC dI cyB cyI cyJ cyP a0 jaQ ja5 jaD ja7 jby jbe jaM jaY jap jaK jal jam jax jao jaV ja8 jae jag jaf ja4 jaP jaw jaI jaZ jaG jaS jan jaU jaE jar jaL jah jaB jaa jaz jaH jab ja2 z0_s jaq jai jaO jaA jat jau jav jaj jas jaJ jak jad jay jac jaN jbv Q K27 (qB9 jaN jbv Q K27 n) hK27 ih C0 n9 _ _ _ jbd ja9 l1 l2 l3 l4 l5 0 0 hP hD hS (lv_sub hl [2, 3, 4, 5, 6, 7, 1, 0] rfl) hw
set_option maxHeartbeats 4000000 in
set_option maxRecDepth 100000 in
theorem qaBC {p : Program} {l : Launch} {e : Env} {s : State} {m : MethodId} {args : Array Value} {below : List Frame} {meth : Method} {c : Code} {A : Nat → Prop} (dC : Nat → ClassId) (dI : Nat → Nat → Nat) (cyB cyI cyJ cyP : ClassId) (a0 jaQ ja5 : Nat) (jaD ja7 jby jbe jaM jaY jap jaK jal jam jax jao jaV ja8 jae jag jaf ja4 jaP jaw jaI jaZ jaG jaS jan jaU jaE jar jaL jah jaB jaa jaz jaH jab ja2 z0_s jaq jai jaO jaA jat jau jav jaj jas jaJ jak jad jay jac : Value) (jaN : Int32) (jbv : NI) (Q : Int32 → Int32 → NI → Prop) (C0 : cfx p s m args meth c cX11_watch (some .int) wsX11_watch RX11 8 A (dC, dI) (kT cyB cyI cyJ cyP)) : ∀ (n : Nat) (H : Heap) (locs : List Loc) (ls : Array Slot) (jbd : Int32) (ja9 : NI) (l1 l2 l3 : Int32), va_P (dC, dI) vwCl (qbu a0 jbd jaQ jaD ja7 jby jbe jaM jaY jap jaK jal jam jax jao ja5 jaV ja8 jae jag jaf jaN ja4 jaP jaw jaI jaZ jaG jaS jan jaU jaE jar jaL jah jaB jaa jaz jaH jab ja2 z0_s jaq jai jaO jaA jat jau jav jaj jas jaJ jak jad jay jac jaQ cyI ja9 ja5 cyI jbv) H → va_D A (qbu a0 jbd jaQ jaD ja7 jby jbe jaM jaY jap jaK jal jam jax jao ja5 jaV ja8 jae jag jaf jaN ja4 jaP jaw jaI jaZ jaG jaS jan jaU jaE jar jaL jah jaB jaa jaz jaH jab ja2 z0_s jaq jai jaO jaA jat jau jav jaj jas jaJ jak jad jay jac jaQ cyI ja9 ja5 cyI jbv) → va_S A s.heap H locs → lv_has ls 8 [(0, .ref a0), (1, .int l1), (2, .int l2), (3, .int l3)] → qCr jaN jbv Q n jbd ja9 l1 l2 l3 → W p l e (headSpec wsX11_watch ({ frames := 2, cells := 0, slots := 0, locals := 42 })).room s m args below meth c H locs 0 0 (MQ below (va_Qi (fun (r : Int32) (u : Int32 × NI) => Q r u.1 u.2) (cB (dC, dI) (kT cyB cyI cyJ cyP) A (fun u : Int32 × NI => ((qbu a0 u.1 jaQ jaD ja7 jby jbe jaM jaY jap jaK jal jam jax jao ja5 jaV ja8 jae jag jaf jaN ja4 jaP jaw jaI jaZ jaG jaS jan jaU jaE jar jaL jah jaB jaa jaz jaH jab ja2 z0_s jaq jai jaO jaA jat jau jav jaj jas jaJ jak jad jay jac jaQ cyI u.2 ja5 cyI jbv) : va_W))) A) args s 0 0 A) (F0 m 27 ls []) := by
  obtain ⟨hx, hb, hr, hts, hown, hlocks, hml, hA, hK, hNw⟩ := id C0
  intro n
  induction n with
  | zero => intro H locs ls jbd ja9 l1 l2 l3 hP hD hS hl hw; exact False.elim hw
  | succ n ih =>
    intro H locs ls jbd ja9 l1 l2 l3 hP hD hS hl hw
    refine lv_iload_n hx hb (qaa qhd 2 rfl) rfl (lv_at hl 3 rfl) ?_
    refine lv_iconst (v := 1) hx hb (qaa qhd 3 rfl) (by decide) ?_
    refine lv_aload_n hx hb (qaa qhd 4 rfl) rfl (lv_at hl 0 rfl) ?_
    refine va_get (D := (dC, dI)) (ci := 11) (v := .int jaN) (C := RX11) (T := TX11) (N := 55) hx hb hts qEI hown hK hP 0 rfl rfl 20 (by decide) (hts _ qJF) (fun _ h9 => h9) rfl (qaa qhd 5 rfl) ?_
    refine lv_ishl hx hb (qaa qhd 6 rfl) ?_
    refine lv_icmp_ge (tgt := 159) hx hb (qaa qhd 7 rfl) (by decide) (fun c6 => ?_) (fun c6 => ?_)
    · have hw := hw.1 c6
      refine lv_iload_n hx hb (qaa quI 5 rfl) rfl (lv_at hl 2 rfl) ?_
      exact ((W.iret (v := l2) hx hb hr (fun t ht hW => ⟨⟨l2, (jbd, ja9), rfl, hw, by rw [ht]; exact hP, va_K.moved hW.alike hK, hD⟩, hS.F ht⟩) hS.2.2 (qaa quI 6 rfl)))
    · have hw := hw.2 c6
      refine lv_iconst (v := 1) hx hb (qaa qhd 8 rfl) (by decide) ?_
      refine lv_istore (lv' := [(4, .int 1), (0, .ref a0), (1, .int l1), (2, .int l2), (3, .int l3)]) hx hb (qaa qhd 9 rfl) hl (by decide) rfl (fun ls hl => ?_)
      refine lv_iconst (v := 0) hx hb (qaa qhd 10 rfl) (by decide) ?_
      refine lv_istore (lv' := [(5, .int 0), (4, .int 1), (0, .ref a0), (1, .int l1), (2, .int l2), (3, .int l3)]) hx hb (qaa qhd 11 rfl) hl (by decide) rfl (fun ls hl => ?_)
      obtain ⟨n9, hw⟩ := hw
      exact qav4 dC dI cyB cyI cyJ cyP a0 jaQ ja5 jaD ja7 jby jbe jaM jaY jap jaK jal jam jax jao jaV ja8 jae jag jaf ja4 jaP jaw jaI jaZ jaG jaS jan jaU jaE jar jaL jah jaB jaa jaz jaH jab ja2 z0_s jaq jai jaO jaA jat jau jav jaj jas jaJ jak jad jay jac jaN jbv Q (qCr jaN jbv Q n) ih C0 n9 _ _ _ jbd ja9 l1 l2 l3 1 0 hP hD hS (lv_sub hl [2, 3, 4, 5, 1, 0] rfl) hw
set_option maxHeartbeats 4000000 in
set_option maxRecDepth 100000 in
theorem qaTn (l : Launch) (dC : Nat → ClassId) (dI : Nat → Nat → Nat) (cyB cyI cyJ cyP : ClassId) (a0 jaQ ja5 sz : Nat) (jaD ja7 jby jbe jaM jaY jap jaK jal jam jax jao jaV ja8 jae jag jaf ja4 jaP jaw jaI jaZ jaG jaS jan jaU jaE jar jaL jah jaB jaa jaz jaH jab ja2 z0_s jaq jai jaO jaA jat jau jav jaj jas jaJ jak jad jay jac : Value) (jaN : Int32) (jbv : NI) (jbd : Int32) (ja9 : NI) (p1 : Int32) {Q : Int32 → Int32 → NI → Prop} (hw : q0O jaN jbv jbd ja9 p1 Q) : Met l yX11_watch wsX11_watch ({ frames := 2, cells := 0, slots := 0, locals := 42 }) (va_Pc [.ref a0, .int p1] (cPc (dC, dI) (kT cyB cyI cyJ cyP) (qbu a0 jbd jaQ jaD ja7 jby jbe jaM jaY jap jaK jal jam jax jao ja5 jaV ja8 jae jag jaf jaN ja4 jaP jaw jaI jaZ jaG jaS jan jaU jaE jar jaL jah jaB jaa jaz jaH jab ja2 z0_s jaq jai jaO jaA jat jau jav jaj jas jaJ jak jad jay jac jaQ cyI ja9 ja5 cyI jbv) sz)) (va_Qi (fun (r : Int32) (u : Int32 × NI) => Q r u.1 u.2) (cB (dC, dI) (kT cyB cyI cyJ cyP) (va_A (qbu a0 jbd jaQ jaD ja7 jby jbe jaM jaY jap jaK jal jam jax jao ja5 jaV ja8 jae jag jaf jaN ja4 jaP jaw jaI jaZ jaG jaS jan jaU jaE jar jaL jah jaB jaa jaz jaH jab ja2 z0_s jaq jai jaO jaA jat jau jav jaj jas jaJ jak jad jay jac jaQ cyI ja9 ja5 cyI jbv) sz) (fun u : Int32 × NI => ((qbu a0 u.1 jaQ jaD ja7 jby jbe jaM jaY jap jaK jal jam jax jao ja5 jaV ja8 jae jag jaf jaN ja4 jaP jaw jaI jaZ jaG jaS jan jaU jaE jar jaL jah jaB jaa jaz jaH jab ja2 z0_s jaq jai jaO jaA jat jau jav jaj jas jaJ jak jad jay jac jaQ cyI u.2 ja5 cyI jbv) : va_W))) (va_A (qbu a0 jbd jaQ jaD ja7 jby jbe jaM jaY jap jaK jal jam jax jao ja5 jaV ja8 jae jag jaf jaN ja4 jaP jaw jaI jaZ jaG jaS jan jaU jaE jar jaL jah jaB jaa jaz jaH jab ja2 z0_s jaq jai jaO jaA jat jau jav jaj jas jaJ jak jad jay jac jaQ cyI ja9 ja5 cyI jbv) sz)) 0 0 (va_A (qbu a0 jbd jaQ jaD ja7 jby jbe jaM jaY jap jaK jal jam jax jao ja5 jaV ja8 jae jag jaf jaN ja4 jaP jaw jaI jaZ jaG jaS jan jaU jaE jar jaL jah jaB jaa jaz jaH jab ja2 z0_s jaq jai jaO jaA jat jau jav jaj jas jaJ jak jad jay jac jaQ cyI ja9 ja5 cyI jbv) sz) := by
  refine Met.ofW (cc := cX11_watch) (maxL := 8) (ret := (some .int)) (by decide) rfl ?_
  intro p e s m args below meth c s₁ B hml hv
  obtain ⟨rfl, hsz, hP, hK, hD0, hNw⟩ := hv
  have hx := B.exec
  have hb := B.bytes
  have hr := B.returns
  have hts := atoms_spec (ws := wsX11_watch) B.pre
  have hown : s.vm.findClass RX11 = some m.cls := findClass_of_methodNamed B.named
  have hlocks := B.notSynchronized
  subst hsz
  have hD := hD0.self (sz := s.heap.size)
  generalize hAe : va_A (qbu a0 jbd jaQ jaD ja7 jby jbe jaM jaY jap jaK jal jam jax jao ja5 jaV ja8 jae jag jaf jaN ja4 jaP jaw jaI jaZ jaG jaS jan jaU jaE jar jaL jah jaB jaa jaz jaH jab ja2 z0_s jaq jai jaO jaA jat jau jav jaj jas jaJ jak jad jay jac jaQ cyI ja9 ja5 cyI jbv) s.heap.size = A at hD ⊢
  have hA : ∀ q : Nat, s.heap.size ≤ q → A q := fun q h => by rw [← hAe]; exact Or.inr h
  have hS : va_S A s.heap s.heap [] := va_S.rf
  have hP : va_P (dC, dI) vwCl (qbu a0 jbd jaQ jaD ja7 jby jbe jaM jaY jap jaK jal jam jax jao ja5 jaV ja8 jae jag jaf jaN ja4 jaP jaw jaI jaZ jaG jaS jan jaU jaE jar jaL jah jaB jaa jaz jaH jab ja2 z0_s jaq jai jaO jaA jat jau jav jaj jas jaJ jak jad jay jac jaQ cyI ja9 ja5 cyI jbv) s.heap := hP
  have hl := lv_entry ([.ref a0, .int p1]) (n := 8) (nbq rfl)
  rw [lg_entry_eq]
  generalize (lg_sl ([.ref a0, .int p1]) ++ List.replicate (8 - (lg_sl ([.ref a0, .int p1])).length) Slot.unset).toArray = ls at hl ⊢
  have hl : lv_has ls 8 [(0, .ref a0), (1, .int p1)] := hl
  have C0 : cfx p s m _ meth c cX11_watch (some .int) wsX11_watch RX11 8 A (dC, dI) (kT cyB cyI cyJ cyP) := ⟨hx, hb, hr, hts, hown, hlocks, hml, hA, hK, hNw⟩
  clear hAe
  obtain ⟨H, hH⟩ : ∃ H, H = s.heap := ⟨_, rfl⟩
  rw [← hH] at hP ⊢
  have hS : va_S A s.heap H [] := by rw [hH]; exact va_S.rf
  have hS := hS
  refine lv_aload_n hx hb (qaa qkc 0 rfl) rfl (lv_at hl 0 rfl) ?_
  refine lv_iconst (v := 0) hx hb (qaa qkc 1 rfl) (by decide) ?_
  refine va_put (D := (dC, dI)) (ci := 11) (v := .int 0) (ty := .int) (C := RX11) (T := TX11) (N := 55) hx hb hts qEI tyX11 tyX11_ok nmX11 hown hK hP hD hS 0 rfl rfl 0 (by decide) (hts _ qayn) (fun _ h9 => h9) rfl (by decide +kernel) rfl rfl (nbq rfl) (qaa qkc 2 rfl) (fun H locs hP hD hS => ?_)
  have hP : va_P (dC, dI) vwCl (qbu a0 0 jaQ jaD ja7 jby jbe jaM jaY jap jaK jal jam jax jao ja5 jaV ja8 jae jag jaf jaN ja4 jaP jaw jaI jaZ jaG jaS jan jaU jaE jar jaL jah jaB jaa jaz jaH jab ja2 z0_s jaq jai jaO jaA jat jau jav jaj jas jaJ jak jad jay jac jaQ cyI ja9 ja5 cyI jbv) H := hP
  have hD : va_D A (qbu a0 0 jaQ jaD ja7 jby jbe jaM jaY jap jaK jal jam jax jao ja5 jaV ja8 jae jag jaf jaN ja4 jaP jaw jaI jaZ jaG jaS jan jaU jaE jar jaL jah jaB jaa jaz jaH jab ja2 z0_s jaq jai jaO jaA jat jau jav jaj jas jaJ jak jad jay jac jaQ cyI ja9 ja5 cyI jbv) := hD
  refine lv_aload_n hx hb (qaa qkc 3 rfl) rfl (lv_at hl 0 rfl) ?_
  refine lv_iload_n hx hb (qaa qkc 4 rfl) rfl (lv_at hl 1 rfl) ?_
  refine lv_iconst (v := 0) hx hb (qaa qkc 5 rfl) (by decide) ?_
  refine lv_bipush (v := 60) hx hb (qaa qkc 6 rfl) (by decide) ?_
  obtain ⟨hCc, hPc, hDc, hFc⟩ := qac (ws' := []) hP hD hS hA [] (by decide +kernel) rfl
  refine va_calli (va_runS (As := [.int p1, .int 0, .int 60]) (rest := [.ref a0]) ⟨hx, hb, hml, hown, hts⟩ (qbG l dC dI cyB cyI cyJ cyP H.size p1 0 60 hw) (va_cwS 3 hts gX11_watch_X11_within rfl rfl rfl (by decide +kernel) ⟨nbq rfl, nbq rfl⟩) ⟨qab, qae hPc hK hDc hNw⟩ rfl rfl hl.1 rfl (lv_room (nbq rfl)) (qaa qkc 7 rfl) ⟨nbq rfl, nbq rfl⟩) hS (fun q _ h => hFc q h) hFc (fun r1 u t H1 locs ht hvm hw hB hz1 hk1 hS => ?_)
  obtain ⟨hP1, hK1, hD1⟩ := hB
  rw [ht] at hP1
  obtain ⟨hP, hD⟩ := qah (wr := (qbu a0 0 jaQ jaD ja7 jby jbe jaM jaY jap jaK jal jam jax jao ja5 jaV ja8 jae jag jaf jaN ja4 jaP jaw jaI jaZ jaG jaS jan jaU jaE jar jaL jah jaB jaa jaz jaH jab ja2 z0_s jaq jai jaO jaA jat jau jav jaj jas jaJ jak jad jay jac jaQ cyI ja9 ja5 cyI jbv)) (w1 := []) (wn := (qbu a0 0 jaQ jaD ja7 jby jbe jaM jaY jap jaK jal jam jax jao ja5 jaV ja8 jae jag jaf jaN ja4 jaP jaw jaI jaZ jaG jaS jan jaU jaE jar jaL jah jaB jaa jaz jaH jab ja2 z0_s jaq jai jaO jaA jat jau jav jaj jas jaJ jak jad jay jac jaQ cyI ja9 ja5 cyI jbv)) hP hD [] [0, 1, 2] hCc rfl (by decide +kernel) (by decide +kernel) rfl hk1 hFc hP1 hD1
  generalize H1 = H at hP hS ⊢
  refine lv_iconst (v := 1) hx hb (qaa qkc 8 rfl) (by decide) ?_
  refine lv_iconst (v := 1) hx hb (qaa qkc 9 rfl) (by decide) ?_
  obtain ⟨hCc, hPc, hDc, hFc⟩ := qac (ws' := (qa58 a0 0 jaQ jaD ja7 jby jbe jaM jaY jap jaK jal jam jax jao ja5 jaV ja8 jae jag jaf jaN ja4 jaP jaw jaI jaZ jaG jaS jan jaU jaE jar jaL jah jaB jaa jaz jaH jab ja2 z0_s jaq jai jaO jaA jat jau jav jaj jas jaJ jak jad jay jac jaQ cyI ja9)) hP hD hS hA [0, 1] (by decide +kernel) rfl
  refine va_calli (va_runV (As := [.int r1, .int 1, .int 1]) (rest := []) ⟨hx, hb, hml, hown, hts⟩ (qkE l dC dI cyB cyI cyJ cyP a0 jaQ H.size (jaD) (ja7) (jby) (jbe) (jaM) (jaY) (jap) (jaK) (jal) (jam) (jax) (jao) (.ref ja5) (jaV) (ja8) (jae) (jag) (jaf) (.int jaN) (ja4) (jaP) (jaw) (jaI) (jaZ) (jaG) (jaS) (jan) (jaU) (jaE) (jar) (jaL) (jah) (jaB) (jaa) (jaz) (jaH) (jab) (ja2) (z0_s) (jaq) (jai) (jaO) (jaA) (jat) (jau) (jav) (jaj) (jas) (jaJ) (jak) (jad) (jay) (jac) 0 ja9 r1 1 1 hw) (cwV 3 hts gX11_watch_X11_may rfl rfl rfl (by decide +kernel) ⟨nbq rfl, nbq rfl⟩) ⟨qab, va_recv (q := (RX11, TX11, 55)) hK hPc (ci := 11) (q0 := 0) rfl rfl, qae hPc hK hDc hNw⟩ rfl rfl hl.1 rfl (lv_room (nbq rfl)) (qaa qkc 10 rfl) ⟨nbq rfl, nbq rfl⟩) hS (fun q _ h => hFc q h) hFc (fun r4 u t H1 locs ht hvm hw hB hz1 hk1 hS => ?_)
  obtain ⟨x2, f3⟩ := u
  obtain ⟨hP1, hK1, hD1⟩ := hB
  rw [ht] at hP1
  obtain ⟨hP, hD⟩ := qad (wr := [(ja5, .inl (cyI, 16, .inl jbv))]) (w1 := (qa58 a0 x2 jaQ jaD ja7 jby jbe jaM jaY jap jaK jal jam jax jao ja5 jaV ja8 jae jag jaf jaN ja4 jaP jaw jaI jaZ jaG jaS jan jaU jaE jar jaL jah jaB jaa jaz jaH jab ja2 z0_s jaq jai jaO jaA jat jau jav jaj jas jaJ jak jad jay jac jaQ cyI f3)) (wn := (qbu a0 x2 jaQ jaD ja7 jby jbe jaM jaY jap jaK jal jam jax jao ja5 jaV ja8 jae jag jaf jaN ja4 jaP jaw jaI jaZ jaG jaS jan jaU jaE jar jaL jah jaB jaa jaz jaH jab ja2 z0_s jaq jai jaO jaA jat jau jav jaj jas jaJ jak jad jay jac jaQ cyI f3 ja5 cyI jbv)) hP hD [0, 1] [2] [1, 2, 0] hCc rfl (by decide +kernel) (by decide +kernel) (by decide +kernel) rfl hk1 hFc hP1 hD1
  generalize H1 = H at hP hS ⊢
  refine lv_if_ne (tgt := 23) hx hb (qaa qkc 11 rfl) (by decide) (fun c5 => ?_) (fun c5 => ?_)
  · have hw := hw.1 c5
    refine lv_iconst (v := (-1)) hx hb (qaa qkc 14 rfl) (by decide) ?_
    refine lv_istore_n (lv' := [(2, .int (-1)), (0, .ref a0), (1, .int p1)]) hx hb (qaa qkc 15 rfl) rfl hl (by decide) rfl (fun ls hl => ?_)
    refine lv_iconst (v := 0) hx hb (qaa qhd 0 rfl) (by decide) ?_
    refine lv_istore_n (lv' := [(3, .int 0), (2, .int (-1)), (0, .ref a0), (1, .int p1)]) hx hb (qaa qhd 1 rfl) rfl hl (by decide) rfl (fun ls hl => ?_)
    obtain ⟨n9, hw⟩ := hw
    exact qaBC dC dI cyB cyI cyJ cyP a0 jaQ ja5 jaD ja7 jby jbe jaM jaY jap jaK jal jam jax jao jaV ja8 jae jag jaf ja4 jaP jaw jaI jaZ jaG jaS jan jaU jaE jar jaL jah jaB jaa jaz jaH jab ja2 z0_s jaq jai jaO jaA jat jau jav jaj jas jaJ jak jad jay jac jaN jbv Q C0 n9 _ _ _ x2 f3 p1 (-1) 0 hP hD hS (lv_sub hl [2, 3, 1, 0] rfl) hw
  · have hw := hw.2 c5
    refine lv_iconst (v := 0) hx hb (qaa qkc 12 rfl) (by decide) ?_
    exact ((W.iret (v := 0) hx hb hr (fun t ht hW => ⟨⟨0, (x2, f3), rfl, hw, by rw [ht]; exact hP, va_K.moved hW.alike hK, hD⟩, hS.F ht⟩) hS.2.2 (qaa qkc 13 rfl)))
theorem qaoH : ∀ w ∈ u_ws RX11 TX11 55, w ∈ wsX11_would := uiM qBE qfa (by decide +kernel)
theorem qayo : (.fieldLink RX11 3 "MarchHaresModel" "thrown" "I" : Cond) ∈ wsX11_would := qBE 589 (by decide +kernel)
set_option maxHeartbeats 4000000 in
set_option maxRecDepth 100000 in
theorem q18 {p : Program} {l : Launch} {e : Env} {s : State} {m : MethodId} {args : Array Value} {below : List Frame} {meth : Method} {c : Code} {A : Nat → Prop} (dC : Nat → ClassId) (dI : Nat → Nat → Nat) (cyB cyI cyJ cyP : ClassId) (a0 jaQ jbu jbB jbG jbg : Nat) (jaD ja7 jby jbe jaM jaY jap jaK jal jam jax jao ja6 jaV ja8 jae jag jaf ja0 ja4 jaP jaw jaI jan jar jaL jah jaB jaa jaz jaH jab ja2 z0_s jaq jai jaO jaA jat jau jav jaj jas jaJ jak jad jay jac : Value) (jbD : Int32) (jcu jbT : NI) (Q : Int32 → Int32 → NI → NI → NI → Prop) (C0 : cfx p s m args meth c cX11_would (some .int) wsX11_would RX11 9 A (dC, dI) (kT cyB cyI cyJ cyP)) : ∀ (H : Heap) (locs : List Loc) (ls : Array Slot) (jbd : Int32) (ja9 jb1 jcb : NI) (l1 l2 l3 l4 l5 l6 l7 l8 s1 : Int32), va_P (dC, dI) vwCl (qp8 a0 jbd jaQ jaD ja7 jby jbe jaM jaY jap jaK jal jam jax jao ja6 jaV ja8 jae jag jaf ja0 ja4 jaP jaw jaI jbG jbg jbB jan jbD jbu jar jaL jah jaB jaa jaz jaH jab ja2 z0_s jaq jai jaO jaA jat jau jav jaj jas jaJ jak jad jay jac jaQ cyI ja9 jbu cyI jb1 jbB cyI jcb jbG cyI jcu jbg cyI jbT) H → va_D A (qp8 a0 jbd jaQ jaD ja7 jby jbe jaM jaY jap jaK jal jam jax jao ja6 jaV ja8 jae jag jaf ja0 ja4 jaP jaw jaI jbG jbg jbB jan jbD jbu jar jaL jah jaB jaa jaz jaH jab ja2 z0_s jaq jai jaO jaA jat jau jav jaj jas jaJ jak jad jay jac jaQ cyI ja9 jbu cyI jb1 jbB cyI jcb jbG cyI jcu jbg cyI jbT) → va_S A s.heap H locs → lv_has ls 9 [(0, .ref a0), (1, .int l1), (2, .int l2), (3, .int l3), (4, .int l4), (5, .int l5), (6, .int l6), (7, .int l7), (8, .int l8)] → qRc jbD jcu jbT Q jbd ja9 jb1 jcb l1 l2 l3 l4 l5 l6 l7 l8 s1 → W p l e (headSpec wsX11_would ({ frames := 4, cells := 0, slots := 0, locals := 94 })).room s m args below meth c H locs 0 0 (MQ below (va_Qi (fun (r : Int32) (u : Int32 × NI × NI × NI) => Q r u.1 u.2.1 u.2.2.1 u.2.2.2) (cB (dC, dI) (kT cyB cyI cyJ cyP) A (fun u : Int32 × NI × NI × NI => ((qp8 a0 u.1 jaQ jaD ja7 jby jbe jaM jaY jap jaK jal jam jax jao ja6 jaV ja8 jae jag jaf ja0 ja4 jaP jaw jaI jbG jbg jbB jan jbD jbu jar jaL jah jaB jaa jaz jaH jab ja2 z0_s jaq jai jaO jaA jat jau jav jaj jas jaJ jak jad jay jac jaQ cyI u.2.1 jbu cyI u.2.2.1 jbB cyI u.2.2.2 jbG cyI jcu jbg cyI jbT) : va_W))) A) args s 0 0 A) (F0 m 98 ls [.int s1, .ref a0]) := by
  obtain ⟨hx, hb, hr, hts, hown, hlocks, hml, hA, hK, hNw⟩ := id C0
  intro H locs ls jbd ja9 jb1 jcb l1 l2 l3 l4 l5 l6 l7 l8 s1 hP hD hS hl hw
  refine lv_iconst (v := 1) hx hb (qaa qgJ 15 rfl) (by decide) ?_
  refine lv_iconst (v := 1) hx hb (qaa qhc 0 rfl) (by decide) ?_
  obtain ⟨hCc, hPc, hDc, hFc⟩ := qac (ws' := (qa94 a0 jbd jaQ jaD ja7 jby jbe jaM jaY jap jaK jal jam jax jao ja6 jaV ja8 jae jag jaf ja0 ja4 jaP jaw jaI jbG jbg jbB jan jbD jbu jar jaL jah jaB jaa jaz jaH jab ja2 z0_s jaq jai jaO jaA jat jau jav jaj jas jaJ jak jad jay jac jaQ cyI ja9)) hP hD hS hA [0, 1] (by decide +kernel) rfl
  refine va_calli (va_runV (As := [.int s1, .int 1, .int 1]) (rest := []) ⟨hx, hb, hml, hown, hts⟩ (qkE l dC dI cyB cyI cyJ cyP a0 jaQ H.size (jaD) (ja7) (jby) (jbe) (jaM) (jaY) (jap) (jaK) (jal) (jam) (jax) (jao) (ja6) (jaV) (ja8) (jae) (jag) (jaf) (ja0) (ja4) (jaP) (jaw) (jaI) (.ref jbG) (.ref jbg) (.ref jbB) (jan) (.int jbD) (.ref jbu) (jar) (jaL) (jah) (jaB) (jaa) (jaz) (jaH) (jab) (ja2) (z0_s) (jaq) (jai) (jaO) (jaA) (jat) (jau) (jav) (jaj) (jas) (jaJ) (jak) (jad) (jay) (jac) jbd ja9 s1 1 1 hw) (cwV 3 hts gX11_would_X11_may rfl rfl rfl (by decide +kernel) ⟨nbq rfl, nbq rfl⟩) ⟨qab, va_recv (q := (RX11, TX11, 55)) hK hPc (ci := 11) (q0 := 0) rfl rfl, qae hPc hK hDc hNw⟩ rfl rfl hl.1 rfl (lv_room (nbq rfl)) (qaa qhc 1 rfl) ⟨nbq rfl, nbq rfl⟩) hS (fun q _ h => hFc q h) hFc (fun r19 u t H1 locs ht hvm hw hB hz1 hk1 hS => ?_)
  obtain ⟨x17, f18⟩ := u
  obtain ⟨hP1, hK1, hD1⟩ := hB
  rw [ht] at hP1
  obtain ⟨hP, hD⟩ := qad (wr := [(jbu, .inl (cyI, 8, .inl jb1)), (jbB, .inl (cyI, 150, .inl jcb)), (jbG, .inl (cyI, 150, .inl jcu)), (jbg, .inl (cyI, 150, .inl jbT))]) (w1 := (qa94 a0 x17 jaQ jaD ja7 jby jbe jaM jaY jap jaK jal jam jax jao ja6 jaV ja8 jae jag jaf ja0 ja4 jaP jaw jaI jbG jbg jbB jan jbD jbu jar jaL jah jaB jaa jaz jaH jab ja2 z0_s jaq jai jaO jaA jat jau jav jaj jas jaJ jak jad jay jac jaQ cyI f18)) (wn := (qp8 a0 x17 jaQ jaD ja7 jby jbe jaM jaY jap jaK jal jam jax jao ja6 jaV ja8 jae jag jaf ja0 ja4 jaP jaw jaI jbG jbg jbB jan jbD jbu jar jaL jah jaB jaa jaz jaH jab ja2 z0_s jaq jai jaO jaA jat jau jav jaj jas jaJ jak jad jay jac jaQ cyI f18 jbu cyI jb1 jbB cyI jcb jbG cyI jcu jbg cyI jbT)) hP hD [0, 1] [2, 3, 4, 5] [4, 5, 0, 1, 2, 3] hCc rfl (by decide +kernel) (by decide +kernel) (by decide +kernel) rfl hk1 hFc hP1 hD1
  generalize H1 = H at hP hS ⊢
  refine lv_if_ne (tgt := 108) hx hb (qaa qhc 2 rfl) (by decide) (fun c20 => ?_) (fun c20 => ?_)
  · have hw := hw.1 c20
    refine lv_aload_n hx hb (qaa qhc 5 rfl) rfl (lv_at hl 0 rfl) ?_
    refine lv_iload_n hx hb (qaa qhc 6 rfl) rfl (lv_at hl 1 rfl) ?_
    refine lv_iload_n hx hb (qaa qhc 7 rfl) rfl (lv_at hl 2 rfl) ?_
    refine lv_iload_n hx hb (qaa qhc 8 rfl) rfl (lv_at hl 3 rfl) ?_
    refine lv_iload hx hb (qaa qhc 9 rfl) (lv_at hl 4 rfl) ?_
    refine lv_iload hx hb (qaa qhc 10 rfl) (lv_at hl 5 rfl) ?_
    refine lv_iload hx hb (qaa qhc 11 rfl) (lv_at hl 6 rfl) ?_
    refine lv_iload hx hb (qaa qhc 12 rfl) (lv_at hl 7 rfl) ?_
    refine lv_iload hx hb (qaa qhc 13 rfl) (lv_at hl 8 rfl) ?_
    obtain ⟨hCc, hPc, hDc, hFc⟩ := qac (ws' := (qa6d a0 x17 jaQ jaD ja7 jby jbe jaM jaY jap jaK jal jam jax jao ja6 jaV ja8 jae jag jaf ja0 ja4 jaP jaw jaI jbG jbg jbB jan jbD jbu jar jaL jah jaB jaa jaz jaH jab ja2 z0_s jaq jai jaO jaA jat jau jav jaj jas jaJ jak jad jay jac jbu cyI jb1 jbB cyI jcb jbG cyI jcu jbg cyI jbT)) hP hD hS hA [0, 2, 3, 4, 5] (by decide +kernel) rfl
    refine va_calli (va_runV (As := [.int l1, .int l2, .int l3, .int l4, .int l5, .int l6, .int l7, .int l8]) (rest := []) ⟨hx, hb, hml, hown, hts⟩ (qaie l dC dI cyB cyI cyJ cyP a0 jbu jbB jbG jbg H.size (.int x17) (.ref jaQ) (jaD) (ja7) (jby) (jbe) (jaM) (jaY) (jap) (jaK) (jal) (jam) (jax) (jao) (ja6) (jaV) (ja8) (jae) (jag) (jaf) (ja0) (ja4) (jaP) (jaw) (jaI) (jan) (jar) (jaL) (jah) (jaB) (jaa) (jaz) (jaH) (jab) (ja2) (z0_s) (jaq) (jai) (jaO) (jaA) (jat) (jau) (jav) (jaj) (jas) (jaJ) (jak) (jad) (jay) (jac) jbD jcu jbT jb1 jcb l1 l2 l3 l4 l5 l6 l7 l8 hw) (cwV 8 hts gX11_would_X11_leapOf rfl rfl rfl (by decide +kernel) ⟨nbq rfl, nbq rfl⟩) ⟨qab, va_recv (q := (RX11, TX11, 55)) hK hPc (ci := 11) (q0 := 0) rfl rfl, qae hPc hK hDc hNw⟩ rfl rfl hl.1 rfl (lv_room (nbq rfl)) (qaa qhc 14 rfl) ⟨nbq rfl, nbq rfl⟩) hS (fun q _ h => hFc q h) hFc (fun r23 u t H1 locs ht hvm hw hB hz1 hk1 hS => ?_)
    obtain ⟨f21, f22⟩ := u
    obtain ⟨hP1, hK1, hD1⟩ := hB
    rw [ht] at hP1
    obtain ⟨hP, hD⟩ := qad (wr := [(jaQ, .inl (cyI, 2, .inl f18))]) (w1 := (qa6d a0 x17 jaQ jaD ja7 jby jbe jaM jaY jap jaK jal jam jax jao ja6 jaV ja8 jae jag jaf ja0 ja4 jaP jaw jaI jbG jbg jbB jan jbD jbu jar jaL jah jaB jaa jaz jaH jab ja2 z0_s jaq jai jaO jaA jat jau jav jaj jas jaJ jak jad jay jac jbu cyI f21 jbB cyI f22 jbG cyI jcu jbg cyI jbT)) (wn := (qp8 a0 x17 jaQ jaD ja7 jby jbe jaM jaY jap jaK jal jam jax jao ja6 jaV ja8 jae jag jaf ja0 ja4 jaP jaw jaI jbG jbg jbB jan jbD jbu jar jaL jah jaB jaa jaz jaH jab ja2 z0_s jaq jai jaO jaA jat jau jav jaj jas jaJ jak jad jay jac jaQ cyI f18 jbu cyI f21 jbB cyI f22 jbG cyI jcu jbg cyI jbT)) hP hD [0, 2, 3, 4, 5] [1] [1, 0, 2, 3, 4, 5] hCc rfl (by decide +kernel) (by decide +kernel) (by decide +kernel) rfl hk1 hFc hP1 hD1
    generalize H1 = H at hP hS ⊢
    exact ((W.iret (v := r23) hx hb hr (fun t ht hW => ⟨⟨r23, (x17, f18, f21, f22), rfl, hw, by rw [ht]; exact hP, va_K.moved hW.alike hK, hD⟩, hS.F ht⟩) hS.2.2 (qaa qhc 15 rfl)))
  · have hw := hw.2 c20
    refine lv_iconst (v := 0) hx hb (qaa qhc 3 rfl) (by decide) ?_
    exact ((W.iret (v := 0) hx hb hr (fun t ht hW => ⟨⟨0, (x17, f18, jb1, jcb), rfl, hw, by rw [ht]; exact hP, va_K.moved hW.alike hK, hD⟩, hS.F ht⟩) hS.2.2 (qaa qhc 4 rfl)))
set_option maxHeartbeats 4000000 in
set_option maxRecDepth 100000 in
theorem qtU {p : Program} {l : Launch} {e : Env} {s : State} {m : MethodId} {args : Array Value} {below : List Frame} {meth : Method} {c : Code} {A : Nat → Prop} (dC : Nat → ClassId) (dI : Nat → Nat → Nat) (cyB cyI cyJ cyP : ClassId) (a0 jaQ jbu jbB jbG jbg : Nat) (jaD ja7 jby jbe jaM jaY jap jaK jal jam jax jao ja6 jaV ja8 jae jag jaf ja0 ja4 jaP jaw jaI jan jar jaL jah jaB jaa jaz jaH jab ja2 z0_s jaq jai jaO jaA jat jau jav jaj jas jaJ jak jad jay jac : Value) (jbD : Int32) (jcu jbT : NI) (Q : Int32 → Int32 → NI → NI → NI → Prop) (C0 : cfx p s m args meth c cX11_would (some .int) wsX11_would RX11 9 A (dC, dI) (kT cyB cyI cyJ cyP)) : ∀ (H : Heap) (locs : List Loc) (ls : Array Slot) (jbd : Int32) (ja9 jb1 jcb : NI) (l1 l2 l3 l4 l5 l6 l7 l8 : Int32), va_P (dC, dI) vwCl (qp8 a0 jbd jaQ jaD ja7 jby jbe jaM jaY jap jaK jal jam jax jao ja6 jaV ja8 jae jag jaf ja0 ja4 jaP jaw jaI jbG jbg jbB jan jbD jbu jar jaL jah jaB jaa jaz jaH jab ja2 z0_s jaq jai jaO jaA jat jau jav jaj jas jaJ jak jad jay jac jaQ cyI ja9 jbu cyI jb1 jbB cyI jcb jbG cyI jcu jbg cyI jbT) H → va_D A (qp8 a0 jbd jaQ jaD ja7 jby jbe jaM jaY jap jaK jal jam jax jao ja6 jaV ja8 jae jag jaf ja0 ja4 jaP jaw jaI jbG jbg jbB jan jbD jbu jar jaL jah jaB jaa jaz jaH jab ja2 z0_s jaq jai jaO jaA jat jau jav jaj jas jaJ jak jad jay jac jaQ cyI ja9 jbu cyI jb1 jbB cyI jcb jbG cyI jcu jbg cyI jbT) → va_S A s.heap H locs → lv_has ls 9 [(0, .ref a0), (1, .int l1), (2, .int l2), (3, .int l3), (4, .int l4), (5, .int l5), (6, .int l6), (7, .int l7), (8, .int l8)] → qso jbD jcu jbT Q jbd ja9 jb1 jcb l1 l2 l3 l4 l5 l6 l7 l8 → W p l e (headSpec wsX11_would ({ frames := 4, cells := 0, slots := 0, locals := 94 })).room s m args below meth c H locs 0 0 (MQ below (va_Qi (fun (r : Int32) (u : Int32 × NI × NI × NI) => Q r u.1 u.2.1 u.2.2.1 u.2.2.2) (cB (dC, dI) (kT cyB cyI cyJ cyP) A (fun u : Int32 × NI × NI × NI => ((qp8 a0 u.1 jaQ jaD ja7 jby jbe jaM jaY jap jaK jal jam jax jao ja6 jaV ja8 jae jag jaf ja0 ja4 jaP jaw jaI jbG jbg jbB jan jbD jbu jar jaL jah jaB jaa jaz jaH jab ja2 z0_s jaq jai jaO jaA jat jau jav jaj jas jaJ jak jad jay jac jaQ cyI u.2.1 jbu cyI u.2.2.1 jbB cyI u.2.2.2 jbG cyI jcu jbg cyI jbT) : va_W))) A) args s 0 0 A) (F0 m 97 ls [.ref a0]) := by
  obtain ⟨hx, hb, hr, hts, hown, hlocks, hml, hA, hK, hNw⟩ := id C0
  intro H locs ls jbd ja9 jb1 jcb l1 l2 l3 l4 l5 l6 l7 l8 hP hD hS hl hw
  refine lv_iconst (v := 0) hx hb (qaa qgJ 14 rfl) (by decide) ?_
  exact q18 dC dI cyB cyI cyJ cyP a0 jaQ jbu jbB jbG jbg jaD ja7 jby jbe jaM jaY jap jaK jal jam jax jao ja6 jaV ja8 jae jag jaf ja0 ja4 jaP jaw jaI jan jar jaL jah jaB jaa jaz jaH jab ja2 z0_s jaq jai jaO jaA jat jau jav jaj jas jaJ jak jad jay jac jbD jcu jbT Q C0 _ _ _ jbd ja9 jb1 jcb l1 l2 l3 l4 l5 l6 l7 l8 0 hP hD hS (lv_sub hl [0, 1, 2, 3, 4, 5, 6, 7, 8] rfl) hw
set_option maxHeartbeats 4000000 in
set_option maxRecDepth 100000 in
theorem qaS9 (l : Launch) (dC : Nat → ClassId) (dI : Nat → Nat → Nat) (cyB cyI cyJ cyP : ClassId) (a0 jaQ jbu jbB jbG jbg sz : Nat) (jaD ja7 jby jbe jaM jaY jap jaK jal jam jax jao ja6 jaV ja8 jae jag jaf ja0 ja4 jaP jaw jaI jan jar jaL jah jaB jaa jaz jaH jab ja2 z0_s jaq jai jaO jaA jat jau jav jaj jas jaJ jak jad jay jac : Value) (jbD : Int32) (jcu jbT : NI) (jbd : Int32) (ja9 jb1 jcb : NI) (p1 p2 p3 p4 p5 p6 p7 p8 : Int32) {Q : Int32 → Int32 → NI → NI → NI → Prop} (hw : q3q jbD jcu jbT jbd ja9 jb1 jcb p1 p2 p3 p4 p5 p6 p7 p8 Q) : Met l yX11_would wsX11_would ({ frames := 4, cells := 0, slots := 0, locals := 94 }) (va_Pc [.ref a0, .int p1, .int p2, .int p3, .int p4, .int p5, .int p6, .int p7, .int p8] (cPc (dC, dI) (kT cyB cyI cyJ cyP) (qp8 a0 jbd jaQ jaD ja7 jby jbe jaM jaY jap jaK jal jam jax jao ja6 jaV ja8 jae jag jaf ja0 ja4 jaP jaw jaI jbG jbg jbB jan jbD jbu jar jaL jah jaB jaa jaz jaH jab ja2 z0_s jaq jai jaO jaA jat jau jav jaj jas jaJ jak jad jay jac jaQ cyI ja9 jbu cyI jb1 jbB cyI jcb jbG cyI jcu jbg cyI jbT) sz)) (va_Qi (fun (r : Int32) (u : Int32 × NI × NI × NI) => Q r u.1 u.2.1 u.2.2.1 u.2.2.2) (cB (dC, dI) (kT cyB cyI cyJ cyP) (va_A (qp8 a0 jbd jaQ jaD ja7 jby jbe jaM jaY jap jaK jal jam jax jao ja6 jaV ja8 jae jag jaf ja0 ja4 jaP jaw jaI jbG jbg jbB jan jbD jbu jar jaL jah jaB jaa jaz jaH jab ja2 z0_s jaq jai jaO jaA jat jau jav jaj jas jaJ jak jad jay jac jaQ cyI ja9 jbu cyI jb1 jbB cyI jcb jbG cyI jcu jbg cyI jbT) sz) (fun u : Int32 × NI × NI × NI => ((qp8 a0 u.1 jaQ jaD ja7 jby jbe jaM jaY jap jaK jal jam jax jao ja6 jaV ja8 jae jag jaf ja0 ja4 jaP jaw jaI jbG jbg jbB jan jbD jbu jar jaL jah jaB jaa jaz jaH jab ja2 z0_s jaq jai jaO jaA jat jau jav jaj jas jaJ jak jad jay jac jaQ cyI u.2.1 jbu cyI u.2.2.1 jbB cyI u.2.2.2 jbG cyI jcu jbg cyI jbT) : va_W))) (va_A (qp8 a0 jbd jaQ jaD ja7 jby jbe jaM jaY jap jaK jal jam jax jao ja6 jaV ja8 jae jag jaf ja0 ja4 jaP jaw jaI jbG jbg jbB jan jbD jbu jar jaL jah jaB jaa jaz jaH jab ja2 z0_s jaq jai jaO jaA jat jau jav jaj jas jaJ jak jad jay jac jaQ cyI ja9 jbu cyI jb1 jbB cyI jcb jbG cyI jcu jbg cyI jbT) sz)) 0 0 (va_A (qp8 a0 jbd jaQ jaD ja7 jby jbe jaM jaY jap jaK jal jam jax jao ja6 jaV ja8 jae jag jaf ja0 ja4 jaP jaw jaI jbG jbg jbB jan jbD jbu jar jaL jah jaB jaa jaz jaH jab ja2 z0_s jaq jai jaO jaA jat jau jav jaj jas jaJ jak jad jay jac jaQ cyI ja9 jbu cyI jb1 jbB cyI jcb jbG cyI jcu jbg cyI jbT) sz) := by
  refine Met.ofW (cc := cX11_would) (maxL := 9) (ret := (some .int)) (by decide) rfl ?_
  intro p e s m args below meth c s₁ B hml hv
  obtain ⟨rfl, hsz, hP, hK, hD0, hNw⟩ := hv
  have hx := B.exec
  have hb := B.bytes
  have hr := B.returns
  have hts := atoms_spec (ws := wsX11_would) B.pre
  have hown : s.vm.findClass RX11 = some m.cls := findClass_of_methodNamed B.named
  have hlocks := B.notSynchronized
  subst hsz
  have hD := hD0.self (sz := s.heap.size)
  generalize hAe : va_A (qp8 a0 jbd jaQ jaD ja7 jby jbe jaM jaY jap jaK jal jam jax jao ja6 jaV ja8 jae jag jaf ja0 ja4 jaP jaw jaI jbG jbg jbB jan jbD jbu jar jaL jah jaB jaa jaz jaH jab ja2 z0_s jaq jai jaO jaA jat jau jav jaj jas jaJ jak jad jay jac jaQ cyI ja9 jbu cyI jb1 jbB cyI jcb jbG cyI jcu jbg cyI jbT) s.heap.size = A at hD ⊢
  have hA : ∀ q : Nat, s.heap.size ≤ q → A q := fun q h => by rw [← hAe]; exact Or.inr h
  have hS : va_S A s.heap s.heap [] := va_S.rf
  have hP : va_P (dC, dI) vwCl (qp8 a0 jbd jaQ jaD ja7 jby jbe jaM jaY jap jaK jal jam jax jao ja6 jaV ja8 jae jag jaf ja0 ja4 jaP jaw jaI jbG jbg jbB jan jbD jbu jar jaL jah jaB jaa jaz jaH jab ja2 z0_s jaq jai jaO jaA jat jau jav jaj jas jaJ jak jad jay jac jaQ cyI ja9 jbu cyI jb1 jbB cyI jcb jbG cyI jcu jbg cyI jbT) s.heap := hP
  have hl := lv_entry ([.ref a0, .int p1, .int p2, .int p3, .int p4, .int p5, .int p6, .int p7, .int p8]) (n := 9) (nbq rfl)
  rw [lg_entry_eq]
  generalize (lg_sl ([.ref a0, .int p1, .int p2, .int p3, .int p4, .int p5, .int p6, .int p7, .int p8]) ++ List.replicate (9 - (lg_sl ([.ref a0, .int p1, .int p2, .int p3, .int p4, .int p5, .int p6, .int p7, .int p8])).length) Slot.unset).toArray = ls at hl ⊢
  have hl : lv_has ls 9 [(0, .ref a0), (1, .int p1), (2, .int p2), (3, .int p3), (4, .int p4), (5, .int p5), (6, .int p6), (7, .int p7), (8, .int p8)] := hl
  have C0 : cfx p s m _ meth c cX11_would (some .int) wsX11_would RX11 9 A (dC, dI) (kT cyB cyI cyJ cyP) := ⟨hx, hb, hr, hts, hown, hlocks, hml, hA, hK, hNw⟩
  clear hAe
  obtain ⟨H, hH⟩ : ∃ H, H = s.heap := ⟨_, rfl⟩
  rw [← hH] at hP ⊢
  have hS : va_S A s.heap H [] := by rw [hH]; exact va_S.rf
  have hS := hS
  refine lv_aload_n hx hb (qaa qjH 0 rfl) rfl (lv_at hl 0 rfl) ?_
  refine lv_iconst (v := 0) hx hb (qaa qjH 1 rfl) (by decide) ?_
  refine va_put (D := (dC, dI)) (ci := 11) (v := .int 0) (ty := .int) (C := RX11) (T := TX11) (N := 55) hx hb hts qaoH tyX11 tyX11_ok nmX11 hown hK hP hD hS 0 rfl rfl 0 (by decide) (hts _ qayo) (fun _ h9 => h9) rfl (by decide +kernel) rfl rfl (nbq rfl) (qaa qjH 2 rfl) (fun H locs hP hD hS => ?_)
  have hP : va_P (dC, dI) vwCl (qp8 a0 0 jaQ jaD ja7 jby jbe jaM jaY jap jaK jal jam jax jao ja6 jaV ja8 jae jag jaf ja0 ja4 jaP jaw jaI jbG jbg jbB jan jbD jbu jar jaL jah jaB jaa jaz jaH jab ja2 z0_s jaq jai jaO jaA jat jau jav jaj jas jaJ jak jad jay jac jaQ cyI ja9 jbu cyI jb1 jbB cyI jcb jbG cyI jcu jbg cyI jbT) H := hP
  have hD : va_D A (qp8 a0 0 jaQ jaD ja7 jby jbe jaM jaY jap jaK jal jam jax jao ja6 jaV ja8 jae jag jaf ja0 ja4 jaP jaw jaI jbG jbg jbB jan jbD jbu jar jaL jah jaB jaa jaz jaH jab ja2 z0_s jaq jai jaO jaA jat jau jav jaj jas jaJ jak jad jay jac jaQ cyI ja9 jbu cyI jb1 jbB cyI jcb jbG cyI jcu jbg cyI jbT) := hD
  refine lv_aload_n hx hb (qaa qjH 3 rfl) rfl (lv_at hl 0 rfl) ?_
  refine lv_iload_n hx hb (qaa qjH 4 rfl) rfl (lv_at hl 1 rfl) ?_
  refine lv_iconst (v := 0) hx hb (qaa qjH 5 rfl) (by decide) ?_
  refine lv_bipush (v := 9) hx hb (qaa qjH 6 rfl) (by decide) ?_
  obtain ⟨hCc, hPc, hDc, hFc⟩ := qac (ws' := []) hP hD hS hA [] (by decide +kernel) rfl
  refine va_calli (va_runS (As := [.int p1, .int 0, .int 9]) (rest := [.ref a0]) ⟨hx, hb, hml, hown, hts⟩ (qbG l dC dI cyB cyI cyJ cyP H.size p1 0 9 hw) (va_cwS 3 hts gX11_would_X11_within rfl rfl rfl (by decide +kernel) ⟨nbq rfl, nbq rfl⟩) ⟨qab, qae hPc hK hDc hNw⟩ rfl rfl hl.1 rfl (lv_room (nbq rfl)) (qaa qjH 7 rfl) ⟨nbq rfl, nbq rfl⟩) hS (fun q _ h => hFc q h) hFc (fun r1 u t H1 locs ht hvm hw hB hz1 hk1 hS => ?_)
  obtain ⟨hP1, hK1, hD1⟩ := hB
  rw [ht] at hP1
  obtain ⟨hP, hD⟩ := qah (wr := (qp8 a0 0 jaQ jaD ja7 jby jbe jaM jaY jap jaK jal jam jax jao ja6 jaV ja8 jae jag jaf ja0 ja4 jaP jaw jaI jbG jbg jbB jan jbD jbu jar jaL jah jaB jaa jaz jaH jab ja2 z0_s jaq jai jaO jaA jat jau jav jaj jas jaJ jak jad jay jac jaQ cyI ja9 jbu cyI jb1 jbB cyI jcb jbG cyI jcu jbg cyI jbT)) (w1 := []) (wn := (qp8 a0 0 jaQ jaD ja7 jby jbe jaM jaY jap jaK jal jam jax jao ja6 jaV ja8 jae jag jaf ja0 ja4 jaP jaw jaI jbG jbg jbB jan jbD jbu jar jaL jah jaB jaa jaz jaH jab ja2 z0_s jaq jai jaO jaA jat jau jav jaj jas jaJ jak jad jay jac jaQ cyI ja9 jbu cyI jb1 jbB cyI jcb jbG cyI jcu jbg cyI jbT)) hP hD [] [0, 1, 2, 3, 4, 5] hCc rfl (by decide +kernel) (by decide +kernel) rfl hk1 hFc hP1 hD1
  generalize H1 = H at hP hS ⊢
  refine lv_if_eq (tgt := 97) hx hb (qaa qjH 8 rfl) (by decide) (fun c2 => ?_) (fun c2 => ?_)
  · have hw := hw.1 c2
    exact qtU dC dI cyB cyI cyJ cyP a0 jaQ jbu jbB jbG jbg jaD ja7 jby jbe jaM jaY jap jaK jal jam jax jao ja6 jaV ja8 jae jag jaf ja0 ja4 jaP jaw jaI jan jar jaL jah jaB jaa jaz jaH jab ja2 z0_s jaq jai jaO jaA jat jau jav jaj jas jaJ jak jad jay jac jbD jcu jbT Q C0 _ _ _ 0 ja9 jb1 jcb p1 p2 p3 p4 p5 p6 p7 p8 hP hD hS (lv_sub hl [0, 1, 2, 3, 4, 5, 6, 7, 8] rfl) hw
  · have hw := hw.2 c2
    refine lv_iload_n hx hb (qaa qjH 9 rfl) rfl (lv_at hl 2 rfl) ?_
    refine lv_iconst (v := 0) hx hb (qaa qjH 10 rfl) (by decide) ?_
    refine lv_sipush (v := 999) hx hb (qaa qjH 11 rfl) (by decide) ?_
    obtain ⟨hCc, hPc, hDc, hFc⟩ := qac (ws' := []) hP hD hS hA [] (by decide +kernel) rfl
    refine va_calli (va_runS (As := [.int p2, .int 0, .int 999]) (rest := [.ref a0]) ⟨hx, hb, hml, hown, hts⟩ (qbG l dC dI cyB cyI cyJ cyP H.size p2 0 999 hw) (va_cwS 3 hts gX11_would_X11_within rfl rfl rfl (by decide +kernel) ⟨nbq rfl, nbq rfl⟩) ⟨qab, qae hPc hK hDc hNw⟩ rfl rfl hl.1 rfl (lv_room (nbq rfl)) (qaa qjH 12 rfl) ⟨nbq rfl, nbq rfl⟩) hS (fun q _ h => hFc q h) hFc (fun r3 u t H1 locs ht hvm hw hB hz1 hk1 hS => ?_)
    obtain ⟨hP1, hK1, hD1⟩ := hB
    rw [ht] at hP1
    obtain ⟨hP, hD⟩ := qah (wr := (qp8 a0 0 jaQ jaD ja7 jby jbe jaM jaY jap jaK jal jam jax jao ja6 jaV ja8 jae jag jaf ja0 ja4 jaP jaw jaI jbG jbg jbB jan jbD jbu jar jaL jah jaB jaa jaz jaH jab ja2 z0_s jaq jai jaO jaA jat jau jav jaj jas jaJ jak jad jay jac jaQ cyI ja9 jbu cyI jb1 jbB cyI jcb jbG cyI jcu jbg cyI jbT)) (w1 := []) (wn := (qp8 a0 0 jaQ jaD ja7 jby jbe jaM jaY jap jaK jal jam jax jao ja6 jaV ja8 jae jag jaf ja0 ja4 jaP jaw jaI jbG jbg jbB jan jbD jbu jar jaL jah jaB jaa jaz jaH jab ja2 z0_s jaq jai jaO jaA jat jau jav jaj jas jaJ jak jad jay jac jaQ cyI ja9 jbu cyI jb1 jbB cyI jcb jbG cyI jcu jbg cyI jbT)) hP hD [] [0, 1, 2, 3, 4, 5] hCc rfl (by decide +kernel) (by decide +kernel) rfl hk1 hFc hP1 hD1
    generalize H1 = H at hP hS ⊢
    refine lv_if_eq (tgt := 97) hx hb (qaa qjH 13 rfl) (by decide) (fun c4 => ?_) (fun c4 => ?_)
    · have hw := hw.1 c4
      exact qtU dC dI cyB cyI cyJ cyP a0 jaQ jbu jbB jbG jbg jaD ja7 jby jbe jaM jaY jap jaK jal jam jax jao ja6 jaV ja8 jae jag jaf ja0 ja4 jaP jaw jaI jan jar jaL jah jaB jaa jaz jaH jab ja2 z0_s jaq jai jaO jaA jat jau jav jaj jas jaJ jak jad jay jac jbD jcu jbT Q C0 _ _ _ 0 ja9 jb1 jcb p1 p2 p3 p4 p5 p6 p7 p8 hP hD hS (lv_sub hl [0, 1, 2, 3, 4, 5, 6, 7, 8] rfl) hw
    · have hw := hw.2 c4
      refine lv_iload_n hx hb (qaa qjH 14 rfl) rfl (lv_at hl 3 rfl) ?_
      refine lv_iconst (v := 0) hx hb (qaa qjH 15 rfl) (by decide) ?_
      refine lv_sipush (v := 999) hx hb (qaa qhA 0 rfl) (by decide) ?_
      obtain ⟨hCc, hPc, hDc, hFc⟩ := qac (ws' := []) hP hD hS hA [] (by decide +kernel) rfl
      refine va_calli (va_runS (As := [.int p3, .int 0, .int 999]) (rest := [.ref a0]) ⟨hx, hb, hml, hown, hts⟩ (qbG l dC dI cyB cyI cyJ cyP H.size p3 0 999 hw) (va_cwS 3 hts gX11_would_X11_within rfl rfl rfl (by decide +kernel) ⟨nbq rfl, nbq rfl⟩) ⟨qab, qae hPc hK hDc hNw⟩ rfl rfl hl.1 rfl (lv_room (nbq rfl)) (qaa qhA 1 rfl) ⟨nbq rfl, nbq rfl⟩) hS (fun q _ h => hFc q h) hFc (fun r5 u t H1 locs ht hvm hw hB hz1 hk1 hS => ?_)
      obtain ⟨hP1, hK1, hD1⟩ := hB
      rw [ht] at hP1
      obtain ⟨hP, hD⟩ := qah (wr := (qp8 a0 0 jaQ jaD ja7 jby jbe jaM jaY jap jaK jal jam jax jao ja6 jaV ja8 jae jag jaf ja0 ja4 jaP jaw jaI jbG jbg jbB jan jbD jbu jar jaL jah jaB jaa jaz jaH jab ja2 z0_s jaq jai jaO jaA jat jau jav jaj jas jaJ jak jad jay jac jaQ cyI ja9 jbu cyI jb1 jbB cyI jcb jbG cyI jcu jbg cyI jbT)) (w1 := []) (wn := (qp8 a0 0 jaQ jaD ja7 jby jbe jaM jaY jap jaK jal jam jax jao ja6 jaV ja8 jae jag jaf ja0 ja4 jaP jaw jaI jbG jbg jbB jan jbD jbu jar jaL jah jaB jaa jaz jaH jab ja2 z0_s jaq jai jaO jaA jat jau jav jaj jas jaJ jak jad jay jac jaQ cyI ja9 jbu cyI jb1 jbB cyI jcb jbG cyI jcu jbg cyI jbT)) hP hD [] [0, 1, 2, 3, 4, 5] hCc rfl (by decide +kernel) (by decide +kernel) rfl hk1 hFc hP1 hD1
      generalize H1 = H at hP hS ⊢
      refine lv_if_eq (tgt := 97) hx hb (qaa qhA 2 rfl) (by decide) (fun c6 => ?_) (fun c6 => ?_)
      · have hw := hw.1 c6
        exact qtU dC dI cyB cyI cyJ cyP a0 jaQ jbu jbB jbG jbg jaD ja7 jby jbe jaM jaY jap jaK jal jam jax jao ja6 jaV ja8 jae jag jaf ja0 ja4 jaP jaw jaI jan jar jaL jah jaB jaa jaz jaH jab ja2 z0_s jaq jai jaO jaA jat jau jav jaj jas jaJ jak jad jay jac jbD jcu jbT Q C0 _ _ _ 0 ja9 jb1 jcb p1 p2 p3 p4 p5 p6 p7 p8 hP hD hS (lv_sub hl [0, 1, 2, 3, 4, 5, 6, 7, 8] rfl) hw
      · have hw := hw.2 c6
        refine lv_iload hx hb (qaa qhA 3 rfl) (lv_at hl 4 rfl) ?_
        refine lv_iconst (v := 0) hx hb (qaa qhA 4 rfl) (by decide) ?_
        refine lv_sipush (v := 999) hx hb (qaa qhA 5 rfl) (by decide) ?_
        obtain ⟨hCc, hPc, hDc, hFc⟩ := qac (ws' := []) hP hD hS hA [] (by decide +kernel) rfl
        refine va_calli (va_runS (As := [.int p4, .int 0, .int 999]) (rest := [.ref a0]) ⟨hx, hb, hml, hown, hts⟩ (qbG l dC dI cyB cyI cyJ cyP H.size p4 0 999 hw) (va_cwS 3 hts gX11_would_X11_within rfl rfl rfl (by decide +kernel) ⟨nbq rfl, nbq rfl⟩) ⟨qab, qae hPc hK hDc hNw⟩ rfl rfl hl.1 rfl (lv_room (nbq rfl)) (qaa qhA 6 rfl) ⟨nbq rfl, nbq rfl⟩) hS (fun q _ h => hFc q h) hFc (fun r7 u t H1 locs ht hvm hw hB hz1 hk1 hS => ?_)
        obtain ⟨hP1, hK1, hD1⟩ := hB
        rw [ht] at hP1
        obtain ⟨hP, hD⟩ := qah (wr := (qp8 a0 0 jaQ jaD ja7 jby jbe jaM jaY jap jaK jal jam jax jao ja6 jaV ja8 jae jag jaf ja0 ja4 jaP jaw jaI jbG jbg jbB jan jbD jbu jar jaL jah jaB jaa jaz jaH jab ja2 z0_s jaq jai jaO jaA jat jau jav jaj jas jaJ jak jad jay jac jaQ cyI ja9 jbu cyI jb1 jbB cyI jcb jbG cyI jcu jbg cyI jbT)) (w1 := []) (wn := (qp8 a0 0 jaQ jaD ja7 jby jbe jaM jaY jap jaK jal jam jax jao ja6 jaV ja8 jae jag jaf ja0 ja4 jaP jaw jaI jbG jbg jbB jan jbD jbu jar jaL jah jaB jaa jaz jaH jab ja2 z0_s jaq jai jaO jaA jat jau jav jaj jas jaJ jak jad jay jac jaQ cyI ja9 jbu cyI jb1 jbB cyI jcb jbG cyI jcu jbg cyI jbT)) hP hD [] [0, 1, 2, 3, 4, 5] hCc rfl (by decide +kernel) (by decide +kernel) rfl hk1 hFc hP1 hD1
        generalize H1 = H at hP hS ⊢
        refine lv_if_eq (tgt := 97) hx hb (qaa qhA 7 rfl) (by decide) (fun c8 => ?_) (fun c8 => ?_)
        · have hw := hw.1 c8
          exact qtU dC dI cyB cyI cyJ cyP a0 jaQ jbu jbB jbG jbg jaD ja7 jby jbe jaM jaY jap jaK jal jam jax jao ja6 jaV ja8 jae jag jaf ja0 ja4 jaP jaw jaI jan jar jaL jah jaB jaa jaz jaH jab ja2 z0_s jaq jai jaO jaA jat jau jav jaj jas jaJ jak jad jay jac jbD jcu jbT Q C0 _ _ _ 0 ja9 jb1 jcb p1 p2 p3 p4 p5 p6 p7 p8 hP hD hS (lv_sub hl [0, 1, 2, 3, 4, 5, 6, 7, 8] rfl) hw
        · have hw := hw.2 c8
          refine lv_iload hx hb (qaa qhA 8 rfl) (lv_at hl 5 rfl) ?_
          refine lv_iconst (v := 0) hx hb (qaa qhA 9 rfl) (by decide) ?_
          refine lv_iconst (v := 5) hx hb (qaa qhA 10 rfl) (by decide) ?_
          obtain ⟨hCc, hPc, hDc, hFc⟩ := qac (ws' := []) hP hD hS hA [] (by decide +kernel) rfl
          refine va_calli (va_runS (As := [.int p5, .int 0, .int 5]) (rest := [.ref a0]) ⟨hx, hb, hml, hown, hts⟩ (qbG l dC dI cyB cyI cyJ cyP H.size p5 0 5 hw) (va_cwS 3 hts gX11_would_X11_within rfl rfl rfl (by decide +kernel) ⟨nbq rfl, nbq rfl⟩) ⟨qab, qae hPc hK hDc hNw⟩ rfl rfl hl.1 rfl (lv_room (nbq rfl)) (qaa qhA 11 rfl) ⟨nbq rfl, nbq rfl⟩) hS (fun q _ h => hFc q h) hFc (fun r9 u t H1 locs ht hvm hw hB hz1 hk1 hS => ?_)
          obtain ⟨hP1, hK1, hD1⟩ := hB
          rw [ht] at hP1
          obtain ⟨hP, hD⟩ := qah (wr := (qp8 a0 0 jaQ jaD ja7 jby jbe jaM jaY jap jaK jal jam jax jao ja6 jaV ja8 jae jag jaf ja0 ja4 jaP jaw jaI jbG jbg jbB jan jbD jbu jar jaL jah jaB jaa jaz jaH jab ja2 z0_s jaq jai jaO jaA jat jau jav jaj jas jaJ jak jad jay jac jaQ cyI ja9 jbu cyI jb1 jbB cyI jcb jbG cyI jcu jbg cyI jbT)) (w1 := []) (wn := (qp8 a0 0 jaQ jaD ja7 jby jbe jaM jaY jap jaK jal jam jax jao ja6 jaV ja8 jae jag jaf ja0 ja4 jaP jaw jaI jbG jbg jbB jan jbD jbu jar jaL jah jaB jaa jaz jaH jab ja2 z0_s jaq jai jaO jaA jat jau jav jaj jas jaJ jak jad jay jac jaQ cyI ja9 jbu cyI jb1 jbB cyI jcb jbG cyI jcu jbg cyI jbT)) hP hD [] [0, 1, 2, 3, 4, 5] hCc rfl (by decide +kernel) (by decide +kernel) rfl hk1 hFc hP1 hD1
          generalize H1 = H at hP hS ⊢
          refine lv_if_eq (tgt := 97) hx hb (qaa qhA 12 rfl) (by decide) (fun c10 => ?_) (fun c10 => ?_)
          · have hw := hw.1 c10
            exact qtU dC dI cyB cyI cyJ cyP a0 jaQ jbu jbB jbG jbg jaD ja7 jby jbe jaM jaY jap jaK jal jam jax jao ja6 jaV ja8 jae jag jaf ja0 ja4 jaP jaw jaI jan jar jaL jah jaB jaa jaz jaH jab ja2 z0_s jaq jai jaO jaA jat jau jav jaj jas jaJ jak jad jay jac jbD jcu jbT Q C0 _ _ _ 0 ja9 jb1 jcb p1 p2 p3 p4 p5 p6 p7 p8 hP hD hS (lv_sub hl [0, 1, 2, 3, 4, 5, 6, 7, 8] rfl) hw
          · have hw := hw.2 c10
            refine lv_iload hx hb (qaa qhA 13 rfl) (lv_at hl 6 rfl) ?_
            refine lv_iconst (v := 1) hx hb (qaa qhA 14 rfl) (by decide) ?_
            refine lv_bipush (v := 31) hx hb (qaa qhA 15 rfl) (by decide) ?_
            obtain ⟨hCc, hPc, hDc, hFc⟩ := qac (ws' := []) hP hD hS hA [] (by decide +kernel) rfl
            refine va_calli (va_runS (As := [.int p6, .int 1, .int 31]) (rest := [.ref a0]) ⟨hx, hb, hml, hown, hts⟩ (qbG l dC dI cyB cyI cyJ cyP H.size p6 1 31 hw) (va_cwS 3 hts gX11_would_X11_within rfl rfl rfl (by decide +kernel) ⟨nbq rfl, nbq rfl⟩) ⟨qab, qae hPc hK hDc hNw⟩ rfl rfl hl.1 rfl (lv_room (nbq rfl)) (qaa qgJ 0 rfl) ⟨nbq rfl, nbq rfl⟩) hS (fun q _ h => hFc q h) hFc (fun r11 u t H1 locs ht hvm hw hB hz1 hk1 hS => ?_)
            obtain ⟨hP1, hK1, hD1⟩ := hB
            rw [ht] at hP1
            obtain ⟨hP, hD⟩ := qah (wr := (qp8 a0 0 jaQ jaD ja7 jby jbe jaM jaY jap jaK jal jam jax jao ja6 jaV ja8 jae jag jaf ja0 ja4 jaP jaw jaI jbG jbg jbB jan jbD jbu jar jaL jah jaB jaa jaz jaH jab ja2 z0_s jaq jai jaO jaA jat jau jav jaj jas jaJ jak jad jay jac jaQ cyI ja9 jbu cyI jb1 jbB cyI jcb jbG cyI jcu jbg cyI jbT)) (w1 := []) (wn := (qp8 a0 0 jaQ jaD ja7 jby jbe jaM jaY jap jaK jal jam jax jao ja6 jaV ja8 jae jag jaf ja0 ja4 jaP jaw jaI jbG jbg jbB jan jbD jbu jar jaL jah jaB jaa jaz jaH jab ja2 z0_s jaq jai jaO jaA jat jau jav jaj jas jaJ jak jad jay jac jaQ cyI ja9 jbu cyI jb1 jbB cyI jcb jbG cyI jcu jbg cyI jbT)) hP hD [] [0, 1, 2, 3, 4, 5] hCc rfl (by decide +kernel) (by decide +kernel) rfl hk1 hFc hP1 hD1
            generalize H1 = H at hP hS ⊢
            refine lv_if_eq (tgt := 97) hx hb (qaa qgJ 1 rfl) (by decide) (fun c12 => ?_) (fun c12 => ?_)
            · have hw := hw.1 c12
              exact qtU dC dI cyB cyI cyJ cyP a0 jaQ jbu jbB jbG jbg jaD ja7 jby jbe jaM jaY jap jaK jal jam jax jao ja6 jaV ja8 jae jag jaf ja0 ja4 jaP jaw jaI jan jar jaL jah jaB jaa jaz jaH jab ja2 z0_s jaq jai jaO jaA jat jau jav jaj jas jaJ jak jad jay jac jbD jcu jbT Q C0 _ _ _ 0 ja9 jb1 jcb p1 p2 p3 p4 p5 p6 p7 p8 hP hD hS (lv_sub hl [0, 1, 2, 3, 4, 5, 6, 7, 8] rfl) hw
            · have hw := hw.2 c12
              refine lv_iload hx hb (qaa qgJ 2 rfl) (lv_at hl 7 rfl) ?_
              refine lv_iconst (v := 0) hx hb (qaa qgJ 3 rfl) (by decide) ?_
              refine lv_iconst (v := 5) hx hb (qaa qgJ 4 rfl) (by decide) ?_
              obtain ⟨hCc, hPc, hDc, hFc⟩ := qac (ws' := []) hP hD hS hA [] (by decide +kernel) rfl
              refine va_calli (va_runS (As := [.int p7, .int 0, .int 5]) (rest := [.ref a0]) ⟨hx, hb, hml, hown, hts⟩ (qbG l dC dI cyB cyI cyJ cyP H.size p7 0 5 hw) (va_cwS 3 hts gX11_would_X11_within rfl rfl rfl (by decide +kernel) ⟨nbq rfl, nbq rfl⟩) ⟨qab, qae hPc hK hDc hNw⟩ rfl rfl hl.1 rfl (lv_room (nbq rfl)) (qaa qgJ 5 rfl) ⟨nbq rfl, nbq rfl⟩) hS (fun q _ h => hFc q h) hFc (fun r13 u t H1 locs ht hvm hw hB hz1 hk1 hS => ?_)
              obtain ⟨hP1, hK1, hD1⟩ := hB
              rw [ht] at hP1
              obtain ⟨hP, hD⟩ := qah (wr := (qp8 a0 0 jaQ jaD ja7 jby jbe jaM jaY jap jaK jal jam jax jao ja6 jaV ja8 jae jag jaf ja0 ja4 jaP jaw jaI jbG jbg jbB jan jbD jbu jar jaL jah jaB jaa jaz jaH jab ja2 z0_s jaq jai jaO jaA jat jau jav jaj jas jaJ jak jad jay jac jaQ cyI ja9 jbu cyI jb1 jbB cyI jcb jbG cyI jcu jbg cyI jbT)) (w1 := []) (wn := (qp8 a0 0 jaQ jaD ja7 jby jbe jaM jaY jap jaK jal jam jax jao ja6 jaV ja8 jae jag jaf ja0 ja4 jaP jaw jaI jbG jbg jbB jan jbD jbu jar jaL jah jaB jaa jaz jaH jab ja2 z0_s jaq jai jaO jaA jat jau jav jaj jas jaJ jak jad jay jac jaQ cyI ja9 jbu cyI jb1 jbB cyI jcb jbG cyI jcu jbg cyI jbT)) hP hD [] [0, 1, 2, 3, 4, 5] hCc rfl (by decide +kernel) (by decide +kernel) rfl hk1 hFc hP1 hD1
              generalize H1 = H at hP hS ⊢
              refine lv_if_eq (tgt := 97) hx hb (qaa qgJ 6 rfl) (by decide) (fun c14 => ?_) (fun c14 => ?_)
              · have hw := hw.1 c14
                exact qtU dC dI cyB cyI cyJ cyP a0 jaQ jbu jbB jbG jbg jaD ja7 jby jbe jaM jaY jap jaK jal jam jax jao ja6 jaV ja8 jae jag jaf ja0 ja4 jaP jaw jaI jan jar jaL jah jaB jaa jaz jaH jab ja2 z0_s jaq jai jaO jaA jat jau jav jaj jas jaJ jak jad jay jac jbD jcu jbT Q C0 _ _ _ 0 ja9 jb1 jcb p1 p2 p3 p4 p5 p6 p7 p8 hP hD hS (lv_sub hl [0, 1, 2, 3, 4, 5, 6, 7, 8] rfl) hw
              · have hw := hw.2 c14
                refine lv_iload hx hb (qaa qgJ 7 rfl) (lv_at hl 8 rfl) ?_
                refine lv_iconst (v := 0) hx hb (qaa qgJ 8 rfl) (by decide) ?_
                refine lv_sipush (v := 999) hx hb (qaa qgJ 9 rfl) (by decide) ?_
                obtain ⟨hCc, hPc, hDc, hFc⟩ := qac (ws' := []) hP hD hS hA [] (by decide +kernel) rfl
                refine va_calli (va_runS (As := [.int p8, .int 0, .int 999]) (rest := [.ref a0]) ⟨hx, hb, hml, hown, hts⟩ (qbG l dC dI cyB cyI cyJ cyP H.size p8 0 999 hw) (va_cwS 3 hts gX11_would_X11_within rfl rfl rfl (by decide +kernel) ⟨nbq rfl, nbq rfl⟩) ⟨qab, qae hPc hK hDc hNw⟩ rfl rfl hl.1 rfl (lv_room (nbq rfl)) (qaa qgJ 10 rfl) ⟨nbq rfl, nbq rfl⟩) hS (fun q _ h => hFc q h) hFc (fun r15 u t H1 locs ht hvm hw hB hz1 hk1 hS => ?_)
                obtain ⟨hP1, hK1, hD1⟩ := hB
                rw [ht] at hP1
                obtain ⟨hP, hD⟩ := qah (wr := (qp8 a0 0 jaQ jaD ja7 jby jbe jaM jaY jap jaK jal jam jax jao ja6 jaV ja8 jae jag jaf ja0 ja4 jaP jaw jaI jbG jbg jbB jan jbD jbu jar jaL jah jaB jaa jaz jaH jab ja2 z0_s jaq jai jaO jaA jat jau jav jaj jas jaJ jak jad jay jac jaQ cyI ja9 jbu cyI jb1 jbB cyI jcb jbG cyI jcu jbg cyI jbT)) (w1 := []) (wn := (qp8 a0 0 jaQ jaD ja7 jby jbe jaM jaY jap jaK jal jam jax jao ja6 jaV ja8 jae jag jaf ja0 ja4 jaP jaw jaI jbG jbg jbB jan jbD jbu jar jaL jah jaB jaa jaz jaH jab ja2 z0_s jaq jai jaO jaA jat jau jav jaj jas jaJ jak jad jay jac jaQ cyI ja9 jbu cyI jb1 jbB cyI jcb jbG cyI jcu jbg cyI jbT)) hP hD [] [0, 1, 2, 3, 4, 5] hCc rfl (by decide +kernel) (by decide +kernel) rfl hk1 hFc hP1 hD1
                generalize H1 = H at hP hS ⊢
                refine lv_if_eq (tgt := 97) hx hb (qaa qgJ 11 rfl) (by decide) (fun c16 => ?_) (fun c16 => ?_)
                · have hw := hw.1 c16
                  exact qtU dC dI cyB cyI cyJ cyP a0 jaQ jbu jbB jbG jbg jaD ja7 jby jbe jaM jaY jap jaK jal jam jax jao ja6 jaV ja8 jae jag jaf ja0 ja4 jaP jaw jaI jan jar jaL jah jaB jaa jaz jaH jab ja2 z0_s jaq jai jaO jaA jat jau jav jaj jas jaJ jak jad jay jac jbD jcu jbT Q C0 _ _ _ 0 ja9 jb1 jcb p1 p2 p3 p4 p5 p6 p7 p8 hP hD hS (lv_sub hl [0, 1, 2, 3, 4, 5, 6, 7, 8] rfl) hw
                · have hw := hw.2 c16
                  refine lv_iconst (v := 1) hx hb (qaa qgJ 12 rfl) (by decide) ?_
                  refine lv_goto (tgt := 98) hx hb (qaa qgJ 13 rfl) (by decide) ?_
                  exact q18 dC dI cyB cyI cyJ cyP a0 jaQ jbu jbB jbG jbg jaD ja7 jby jbe jaM jaY jap jaK jal jam jax jao ja6 jaV ja8 jae jag jaf ja0 ja4 jaP jaw jaI jan jar jaL jah jaB jaa jaz jaH jab ja2 z0_s jaq jai jaO jaA jat jau jav jaj jas jaJ jak jad jay jac jbD jcu jbT Q C0 _ _ _ 0 ja9 jb1 jcb p1 p2 p3 p4 p5 p6 p7 p8 1 hP hD hS (lv_sub hl [0, 1, 2, 3, 4, 5, 6, 7, 8] rfl) hw
theorem qp9 : ∀ w ∈ u_ws RX8 TX8 7, w ∈ wsX8_takesWord := uiM qld euX8 (by decide +kernel)
theorem q1O : (.fieldLink RX8 11 "MarchHares$Tape" "bytes" "[B" : Cond) ∈ wsX8_takesWord := qld 142 (by decide +kernel)
theorem q2Q : (.fieldLink RX8 28 "MarchHares$Tape" "length" "I" : Cond) ∈ wsX8_takesWord := qld 712 (by decide +kernel)
theorem qwO : (.fieldLink RX8 31 "MarchHares$Tape" "at" "I" : Cond) ∈ wsX8_takesWord := qld 713 (by decide +kernel)
theorem q3X : (.fieldLink RX8 34 "MarchHares$Tape" "token" "I" : Cond) ∈ wsX8_takesWord := qld 714 (by decide +kernel)
set_option maxHeartbeats 4000000 in
set_option maxRecDepth 100000 in
theorem q62 {p : Program} {l : Launch} {e : Env} {s : State} {m : MethodId} {args : Array Value} {below : List Frame} {meth : Method} {c : Code} {A : Nat → Prop} (dC : Nat → ClassId) (dI : Nat → Nat → Nat) (cyB cyI cyJ cyP : ClassId) (a0 a1 jif : Nat) (jjY jkr : Value) (n1 : Nat) (b1 : NI) (jb7 jkC : Int32) (jjA : NI) (Q : Int32 → Int32 → Int32 → Prop) (C0 : cfx p s m args meth c cX8_takesWord (some .boolean) wsX8_takesWord RX8 4 A (dC, dI) (kT cyB cyI cyJ cyP) ∧ cfY l s A ∧ zP n1 b1 a1 A s s.heap) : ∀ (n : Nat) (H : Heap) (locs : List Loc) (ls : Array Slot) (jcP jlr l2 l3 : Int32), va_P (dC, dI) vwCl (qtq a0 jif jb7 jcP jlr jjY jkC jkr jif cyB jjA) H → va_D A (qtq a0 jif jb7 jcP jlr jjY jkC jkr jif cyB jjA) → va_S A s.heap H locs → lv_has ls 4 [(0, .ref a0), (1, .ref a1), (2, .int l2), (3, .int l3)] → quV n1 b1 jb7 jkC jjA Q n jcP jlr l2 l3 → W p l e (headSpec wsX8_takesWord ({ frames := 4, cells := 0, slots := 0, locals := 85 })).room s m args below meth c H locs 0 0 (MQ below (va_Qi (fun (r : Int32) (u : Int32 × Int32) => Q r u.1 u.2) (cB (dC, dI) (kT cyB cyI cyJ cyP) A (fun u : Int32 × Int32 => ((qtq a0 jif jb7 u.1 u.2 jjY jkC jkr jif cyB jjA) : va_W))) A) args s 0 0 A) (F0 m 41 ls []) := by
  obtain ⟨⟨hx, hb, hr, hts, hown, hlocks, hml, hA, hK, hNw⟩, hY, hE0⟩ := id C0
  have hE := hE0.1
  have hZ1 := hE0.2
  intro n
  induction n with
  | zero => intro H locs ls jcP jlr l2 l3 hP hD hS hl hw; exact False.elim hw
  | succ n ih =>
    intro H locs ls jcP jlr l2 l3 hP hD hS hl hw
    have hw : qGG n1 (fun r9 => ((r9 ≤ l3 → (Q 1 l2 jcP)) ∧ (¬ r9 ≤ l3 → ∀ x11 : Int32, x11 = jcP + l3 → vp_in x11 600 ∧ ∀ x12 : Int32, x12 = jjA x11.toNatClampNeg → qGt n1 b1 l3 (fun r13 => ((x12 = r13 → ∀ x15 : Int32, x15 = l3 + 1 → (quV n1 b1 jb7 jkC jjA Q n jcP jlr l2 x15)) ∧ (¬ x12 = r13 → (Q 0 jcP jlr))))))) := hw
    refine lv_iload_n hx hb (qaa qb5 7 rfl) rfl (lv_at hl 3 rfl) ?_
    refine lv_aload_n hx hb (qaa qb5 8 rfl) rfl (lv_at hl 1 rfl) ?_
    obtain ⟨hCc, hPc, hDc, hFc⟩ := qac (ws' := []) hP hD hS hA [] (by decide +kernel) rfl
    refine va_calli (va_runV (As := []) (rest := [.int l3]) ⟨hx, hb, hml, hown, hts⟩ (q4o l dC dI cyB cyI cyJ cyP a1 H.size n1 b1 hw) (cwV 0 hts gX8_takesWord_J0_length_8abf5 rfl rfl rfl (by decide +kernel) ⟨nbq rfl, nbq rfl⟩) ⟨qBL zQ_G, qaad hZ1 hS, qQ2 zQ_G hPc hK hDc hNw ⟨hZ1, hE.2⟩ hS hFc⟩ rfl rfl hl.1 rfl (lv_room (nbq rfl)) (qaa qb5 9 rfl) ⟨nbq rfl, nbq rfl⟩) hS (fun q _ h => hFc q h) hFc (fun r9 u t H1 locs ht hvm hw hB hz1 hk1 hS => ?_)
    obtain ⟨hP1, hK1, hD1⟩ := hB
    rw [ht] at hP1
    obtain ⟨hP, hD⟩ := qah (wr := (qtq a0 jif jb7 jcP jlr jjY jkC jkr jif cyB jjA)) (w1 := []) (wn := (qtq a0 jif jb7 jcP jlr jjY jkC jkr jif cyB jjA)) hP hD [] [0, 1] hCc rfl (by decide +kernel) (by decide +kernel) rfl hk1 hFc hP1 hD1
    generalize H1 = H at hP hS ⊢
    refine lv_icmp_ge (tgt := 76) hx hb (qaa qb5 10 rfl) (by decide) (fun c10 => ?_) (fun c10 => ?_)
    · have hw := hw.1 c10
      refine lv_aload_n hx hb (qaa qc3 10 rfl) rfl (lv_at hl 0 rfl) ?_
      refine lv_aload_n hx hb (qaa qc3 11 rfl) rfl (lv_at hl 0 rfl) ?_
      refine va_get (D := (dC, dI)) (ci := 8) (v := .int jcP) (C := RX8) (T := TX8) (N := 7) hx hb hts qp9 hown hK hP 0 rfl rfl 2 (by decide) (hts _ qwO) (fun _ h9 => h9) rfl (qaa qc3 12 rfl) ?_
      refine va_put (D := (dC, dI)) (ci := 8) (v := .int jcP) (ty := .int) (C := RX8) (T := TX8) (N := 7) hx hb hts qp9 tyX8 tyX8_ok nmX8 hown hK hP hD hS 0 rfl rfl 3 (by decide) (hts _ q3X) (fun _ h9 => h9) rfl (by decide +kernel) rfl rfl (nbq rfl) (qaa qc3 13 rfl) (fun H locs hP hD hS => ?_)
      have hP : va_P (dC, dI) vwCl (qtq a0 jif jb7 jcP jcP jjY jkC jkr jif cyB jjA) H := hP
      have hD : va_D A (qtq a0 jif jb7 jcP jcP jjY jkC jkr jif cyB jjA) := hD
      refine lv_aload_n hx hb (qaa qc3 14 rfl) rfl (lv_at hl 0 rfl) ?_
      refine lv_iload_n hx hb (qaa qc3 15 rfl) rfl (lv_at hl 2 rfl) ?_
      refine va_put (D := (dC, dI)) (ci := 8) (v := .int l2) (ty := .int) (C := RX8) (T := TX8) (N := 7) hx hb hts qp9 tyX8 tyX8_ok nmX8 hown hK hP hD hS 0 rfl rfl 2 (by decide) (hts _ qwO) (fun _ h9 => h9) rfl (by decide +kernel) rfl rfl (nbq rfl) (qaa qHA 0 rfl) (fun H locs hP hD hS => ?_)
      have hP : va_P (dC, dI) vwCl (qtq a0 jif jb7 l2 jcP jjY jkC jkr jif cyB jjA) H := hP
      have hD : va_D A (qtq a0 jif jb7 l2 jcP jjY jkC jkr jif cyB jjA) := hD
      refine lv_iconst (v := 1) hx hb (qaa qHA 1 rfl) (by decide) ?_
      exact ((W.zret (v := 1) hx hb hr rfl (fun t ht hW => ⟨⟨1, (l2, jcP), rfl, hw, by rw [ht]; exact hP, va_K.moved hW.alike hK, hD⟩, hS.F ht⟩) hS.2.2 (qaa qHA 2 rfl)))
    · have hw := hw.2 c10
      refine lv_aload_n hx hb (qaa qb5 11 rfl) rfl (lv_at hl 0 rfl) ?_
      refine va_get (D := (dC, dI)) (ci := 8) (v := .ref jif) (C := RX8) (T := TX8) (N := 7) hx hb hts qp9 hown hK hP 0 rfl rfl 0 (by decide) (hts _ q1O) (fun _ h9 => h9) rfl (qaa qb5 12 rfl) ?_
      refine lv_aload_n hx hb (qaa qb5 13 rfl) rfl (lv_at hl 0 rfl) ?_
      refine va_get (D := (dC, dI)) (ci := 8) (v := .int jcP) (C := RX8) (T := TX8) (N := 7) hx hb hts qp9 hown hK hP 0 rfl rfl 2 (by decide) (hts _ qwO) (fun _ h9 => h9) rfl (qaa qb5 14 rfl) ?_
      refine lv_iload_n hx hb (qaa qb5 15 rfl) rfl (lv_at hl 3 rfl) ?_
      refine lv_iadd hx hb (qaa qc3 0 rfl) ?_
      refine lv_topi (fun x11 ex11 => ?_)
      have hw := hw x11 ex11
      obtain ⟨hi9, hw⟩ := hw
      refine va_bald hx hb hK hP 1 0 rfl rfl hi9 (qaa qc3 1 rfl) ?_
      refine lv_topi (fun x12 ex12 => ?_)
      have hw := hw x12 ex12
      refine lv_aload_n hx hb (qaa qc3 2 rfl) rfl (lv_at hl 1 rfl) ?_
      refine lv_iload_n hx hb (qaa qc3 3 rfl) rfl (lv_at hl 3 rfl) ?_
      obtain ⟨hCc, hPc, hDc, hFc⟩ := qac (ws' := []) hP hD hS hA [] (by decide +kernel) rfl
      refine va_calli (va_runV (As := [.int l3]) (rest := [.int x12]) ⟨hx, hb, hml, hown, hts⟩ (qaoz l dC dI cyB cyI cyJ cyP a1 l3 H.size n1 b1 hw) (cwV 1 hts gX8_takesWord_J0_charAt_5068e rfl rfl rfl (by decide +kernel) ⟨nbq rfl, nbq rfl⟩) ⟨qBL zQ_G, qaad hZ1 hS, qQ2 zQ_G hPc hK hDc hNw ⟨hZ1, hE.2⟩ hS hFc⟩ rfl rfl hl.1 rfl (lv_room (nbq rfl)) (qaa qc3 4 rfl) ⟨nbq rfl, nbq rfl⟩) hS (fun q _ h => hFc q h) hFc (fun r13 u t H1 locs ht hvm hw hB hz1 hk1 hS => ?_)
      obtain ⟨hP1, hK1, hD1⟩ := hB
      rw [ht] at hP1
      obtain ⟨hP, hD⟩ := qah (wr := (qtq a0 jif jb7 jcP jlr jjY jkC jkr jif cyB jjA)) (w1 := []) (wn := (qtq a0 jif jb7 jcP jlr jjY jkC jkr jif cyB jjA)) hP hD [] [0, 1] hCc rfl (by decide +kernel) (by decide +kernel) rfl hk1 hFc hP1 hD1
      generalize H1 = H at hP hS ⊢
      refine lv_icmp_eq (tgt := 70) hx hb (qaa qc3 5 rfl) (by decide) (fun c14 => ?_) (fun c14 => ?_)
      · have hw := hw.1 c14
        obtain ⟨x15, ex15⟩ : ∃ y : Int32, y = l3 + 1 := ⟨_, rfl⟩
        have hw := hw x15 ex15
        refine lv_iinc (v := x15) (lv' := [(3, .int x15), (0, .ref a0), (1, .ref a1), (2, .int l2)]) hx hb (qaa qc3 8 rfl) hl (k := 3) rfl (by rw [ex15]; rfl) (by decide) rfl (fun ls hl => ?_)
        refine lv_goto (tgt := 41) hx hb (qaa qc3 9 rfl) (by decide) ?_
        exact ih _ _ _ jcP jlr l2 x15 hP hD hS (lv_sub hl [1, 2, 3, 0] rfl) hw
      · have hw := hw.2 c14
        refine lv_iconst (v := 0) hx hb (qaa qc3 6 rfl) (by decide) ?_
        exact ((W.zret (v := 0) hx hb hr rfl (fun t ht hW => ⟨⟨0, (jcP, jlr), rfl, hw, by rw [ht]; exact hP, va_K.moved hW.alike hK, hD⟩, hS.F ht⟩) hS.2.2 (qaa qc3 7 rfl)))
set_option maxHeartbeats 4000000 in
set_option maxRecDepth 100000 in
theorem qb9 (l : Launch) (dC : Nat → ClassId) (dI : Nat → Nat → Nat) (cyB cyI cyJ cyP : ClassId) (a0 a1 jif sz : Nat) (jjY jkr : Value) (n1 : Nat) (b1 : NI) (jb7 jkC : Int32) (jjA : NI) (jcP jlr : Int32) {Q : Int32 → Int32 → Int32 → Prop} (hw : qbL n1 b1 jb7 jkC jjA jcP jlr Q) : Met l yX8_takesWord wsX8_takesWord ({ frames := 4, cells := 0, slots := 0, locals := 85 }) (va_Pc [.ref a0, .ref a1] (cPs (zP n1 b1 a1) l (dC, dI) (kT cyB cyI cyJ cyP) (qtq a0 jif jb7 jcP jlr jjY jkC jkr jif cyB jjA) sz)) (va_Qi (fun (r : Int32) (u : Int32 × Int32) => Q r u.1 u.2) (cB (dC, dI) (kT cyB cyI cyJ cyP) (va_A (qtq a0 jif jb7 jcP jlr jjY jkC jkr jif cyB jjA) sz) (fun u : Int32 × Int32 => ((qtq a0 jif jb7 u.1 u.2 jjY jkC jkr jif cyB jjA) : va_W))) (va_A (qtq a0 jif jb7 jcP jlr jjY jkC jkr jif cyB jjA) sz)) 0 0 (va_A (qtq a0 jif jb7 jcP jlr jjY jkC jkr jif cyB jjA) sz) := by
  refine Met.ofW (cc := cX8_takesWord) (maxL := 4) (ret := (some .boolean)) (by decide) rfl ?_
  intro p e s m args below meth c s₁ B hml hv
  obtain ⟨rfl, ⟨hsz, hP, hK, hD0, hNw, hXl, hXu, hXn, hXt⟩, hE0⟩ := hv
  have hx := B.exec
  have hb := B.bytes
  have hr := B.returns
  have hts := atoms_spec (ws := wsX8_takesWord) B.pre
  have hown : s.vm.findClass RX8 = some m.cls := findClass_of_methodNamed B.named
  have hlocks := B.notSynchronized
  subst hsz
  have hD := hD0.self (sz := s.heap.size)
  generalize hAe : va_A (qtq a0 jif jb7 jcP jlr jjY jkC jkr jif cyB jjA) s.heap.size = A at hD hXu hXn hE0 ⊢
  have hA : ∀ q : Nat, s.heap.size ≤ q → A q := fun q h => by rw [← hAe]; exact Or.inr h
  have hS : va_S A s.heap s.heap [] := va_S.rf
  have hP : va_P (dC, dI) vwCl (qtq a0 jif jb7 jcP jlr jjY jkC jkr jif cyB jjA) s.heap := hP
  have hl := lv_entry ([.ref a0, .ref a1]) (n := 4) (nbq rfl)
  rw [lg_entry_eq]
  generalize (lg_sl ([.ref a0, .ref a1]) ++ List.replicate (4 - (lg_sl ([.ref a0, .ref a1])).length) Slot.unset).toArray = ls at hl ⊢
  have hl : lv_has ls 4 [(0, .ref a0), (1, .ref a1)] := hl
  have hY : cfY l s A := ⟨hXl, hXu, hXn, hXt⟩
  have C0 : cfx p s m _ meth c cX8_takesWord (some .boolean) wsX8_takesWord RX8 4 A (dC, dI) (kT cyB cyI cyJ cyP) ∧ cfY l s A ∧ zP n1 b1 a1 A s s.heap := ⟨⟨hx, hb, hr, hts, hown, hlocks, hml, hA, hK, hNw⟩, hY, hE0⟩
  have hE := hE0.1
  have hZ1 := hE0.2
  clear hAe
  obtain ⟨H, hH⟩ : ∃ H, H = s.heap := ⟨_, rfl⟩
  rw [← hH] at hP ⊢
  have hS : va_S A s.heap H [] := by rw [hH]; exact va_S.rf
  have hS := hS
  refine lv_aload_n hx hb (qaa qeL 0 rfl) rfl (lv_at hl 0 rfl) ?_
  obtain ⟨hCc, hPc, hDc, hFc⟩ := qac (ws' := (qtq a0 jif jb7 jcP jlr jjY jkC jkr jif cyB jjA)) hP hD hS hA [0, 1] (by decide +kernel) rfl
  refine va_callv (va_runV (As := []) (rest := []) ⟨hx, hb, hml, hown, hts⟩ (qwt l dC dI cyB cyI cyJ cyP a0 jif H.size (.int jlr) (jjY) (.int jkC) (jkr) jb7 jjA jcP hw) (cwV 0 hts gX8_takesWord_X8_skipBlanks rfl rfl rfl (by decide +kernel) ⟨nbq rfl, nbq rfl⟩) ⟨qab, va_recv (q := (RX8, TX8, 7)) hK hPc (ci := 8) (q0 := 0) rfl rfl, qae hPc hK hDc hNw⟩ rfl rfl hl.1 rfl (lv_room (nbq rfl)) (qaa qeL 1 rfl) ⟨nbq rfl, nbq rfl⟩) hS (fun q _ h => hFc q h) hFc (fun u t H1 locs ht hvm hw hB hz1 hk1 hS => ?_)
  obtain ⟨x1, rfl⟩ : ∃ z, z = u := ⟨_, rfl⟩
  obtain ⟨hP1, hK1, hD1⟩ := hB
  rw [ht] at hP1
  obtain ⟨hP, hD⟩ := qah (wr := []) (w1 := (qtq a0 jif jb7 x1 jlr jjY jkC jkr jif cyB jjA)) (wn := (qtq a0 jif jb7 x1 jlr jjY jkC jkr jif cyB jjA)) hP hD [0, 1] [] hCc rfl (by decide +kernel) (by decide +kernel) rfl hk1 hFc hP1 hD1
  generalize H1 = H at hP hS ⊢
  refine lv_aload_n hx hb (qaa qeL 2 rfl) rfl (lv_at hl 0 rfl) ?_
  refine va_get (D := (dC, dI)) (ci := 8) (v := .int x1) (C := RX8) (T := TX8) (N := 7) hx hb hts qp9 hown hK hP 0 rfl rfl 2 (by decide) (hts _ qwO) (fun _ h9 => h9) rfl (qaa qeL 3 rfl) ?_
  refine lv_aload_n hx hb (qaa qeL 4 rfl) rfl (lv_at hl 1 rfl) ?_
  obtain ⟨hCc, hPc, hDc, hFc⟩ := qac (ws' := []) hP hD hS hA [] (by decide +kernel) rfl
  refine va_calli (va_runV (As := []) (rest := [.int x1]) ⟨hx, hb, hml, hown, hts⟩ (q4o l dC dI cyB cyI cyJ cyP a1 H.size n1 b1 hw) (cwV 0 hts gX8_takesWord_J0_length_8abf5 rfl rfl rfl (by decide +kernel) ⟨nbq rfl, nbq rfl⟩) ⟨qBL zQ_G, qaad hZ1 hS, qQ2 zQ_G hPc hK hDc hNw ⟨hZ1, hE.2⟩ hS hFc⟩ rfl rfl hl.1 rfl (lv_room (nbq rfl)) (qaa qeL 5 rfl) ⟨nbq rfl, nbq rfl⟩) hS (fun q _ h => hFc q h) hFc (fun r2 u t H1 locs ht hvm hw hB hz1 hk1 hS => ?_)
  obtain ⟨hP1, hK1, hD1⟩ := hB
  rw [ht] at hP1
  obtain ⟨hP, hD⟩ := qah (wr := (qtq a0 jif jb7 x1 jlr jjY jkC jkr jif cyB jjA)) (w1 := []) (wn := (qtq a0 jif jb7 x1 jlr jjY jkC jkr jif cyB jjA)) hP hD [] [0, 1] hCc rfl (by decide +kernel) (by decide +kernel) rfl hk1 hFc hP1 hD1
  generalize H1 = H at hP hS ⊢
  refine lv_iadd hx hb (qaa qeL 6 rfl) ?_
  refine lv_topi (fun x3 ex3 => ?_)
  have hw := hw x3 ex3
  refine lv_istore_n (lv' := [(2, .int x3), (0, .ref a0), (1, .ref a1)]) hx hb (qaa qeL 7 rfl) rfl hl (by decide) rfl (fun ls hl => ?_)
  refine lv_aload_n hx hb (qaa qeL 8 rfl) rfl (lv_at hl 1 rfl) ?_
  obtain ⟨hCc, hPc, hDc, hFc⟩ := qac (ws' := (qa40 a0 jif jb7 x1 jlr jjY jkC jkr)) hP hD hS hA [0] (by decide +kernel) rfl
  refine va_calli (va_runV (As := []) (rest := []) ⟨hx, hb, hml, hown, hts⟩ (qkj l dC dI cyB cyI cyJ cyP a0 H.size (.ref jif) (.int jb7) (.int x1) (.int jlr) (jjY) (jkr) jkC hw) (cwV 0 hts gX8_takesWord_X8_isFaulty rfl rfl rfl (by decide +kernel) ⟨nbq rfl, nbq rfl⟩) ⟨qab, va_recv (q := (RX8, TX8, 7)) hK hPc (ci := 8) (q0 := 0) rfl rfl, qae hPc hK hDc hNw⟩ rfl rfl hl.1 rfl (lv_room (nbq rfl)) (qaa qeL 9 rfl) ⟨nbq rfl, nbq rfl⟩) hS (fun q _ h => hFc q h) hFc (fun r4 u t H1 locs ht hvm hw hB hz1 hk1 hS => ?_)
  obtain ⟨hP1, hK1, hD1⟩ := hB
  rw [ht] at hP1
  obtain ⟨hP, hD⟩ := qad (wr := [(jif, .inl (cyB, 600, .inl jjA))]) (w1 := (qa40 a0 jif jb7 x1 jlr jjY jkC jkr)) (wn := (qtq a0 jif jb7 x1 jlr jjY jkC jkr jif cyB jjA)) hP hD [0] [1] [1, 0] hCc rfl (by decide +kernel) (by decide +kernel) (by decide +kernel) rfl hk1 hFc hP1 hD1
  generalize H1 = H at hP hS ⊢
  refine lv_if_ne (tgt := 37) hx hb (qaa qeL 10 rfl) (by decide) (fun c5 => ?_) (fun c5 => ?_)
  · have hw := hw.1 c5
    refine lv_iconst (v := 0) hx hb (qaa qb5 3 rfl) (by decide) ?_
    exact ((W.zret (v := 0) hx hb hr rfl (fun t ht hW => ⟨⟨0, (x1, jlr), rfl, hw, by rw [ht]; exact hP, va_K.moved hW.alike hK, hD⟩, hS.F ht⟩) hS.2.2 (qaa qb5 4 rfl)))
  · have hw := hw.2 c5
    refine lv_iload_n hx hb (qaa qeL 11 rfl) rfl (lv_at hl 0 rfl) ?_
    refine lv_aload_n hx hb (qaa qeL 12 rfl) rfl (lv_at hl 1 rfl) ?_
    refine va_get (D := (dC, dI)) (ci := 8) (v := .int jb7) (C := RX8) (T := TX8) (N := 7) hx hb hts qp9 hown hK hP 0 rfl rfl 1 (by decide) (hts _ q2Q) (fun _ h9 => h9) rfl (qaa qeL 13 rfl) ?_
    refine lv_icmp_gt (tgt := 37) hx hb (qaa qeL 14 rfl) (by decide) (fun c6 => ?_) (fun c6 => ?_)
    · have hw := hw.1 c6
      refine lv_iconst (v := 0) hx hb (qaa qb5 3 rfl) (by decide) ?_
      exact ((W.zret (v := 0) hx hb hr rfl (fun t ht hW => ⟨⟨0, (x1, jlr), rfl, hw, by rw [ht]; exact hP, va_K.moved hW.alike hK, hD⟩, hS.F ht⟩) hS.2.2 (qaa qb5 4 rfl)))
    · have hw := hw.2 c6
      refine lv_aload_n hx hb (qaa qeL 15 rfl) rfl (lv_at hl 1 rfl) ?_
      refine lv_iload_n hx hb (qaa qb5 0 rfl) rfl (lv_at hl 0 rfl) ?_
      obtain ⟨hCc, hPc, hDc, hFc⟩ := qac (ws' := (qtq a0 jif jb7 x1 jlr jjY jkC jkr jif cyB jjA)) hP hD hS hA [0, 1] (by decide +kernel) rfl
      refine va_calli (va_runV (As := [.int x3]) (rest := []) ⟨hx, hb, hml, hown, hts⟩ (qaI1 l dC dI cyB cyI cyJ cyP a0 jif H.size (.int x1) (.int jlr) (jjY) (.int jkC) (jkr) jb7 jjA x3 hw) (cwV 1 hts gX8_takesWord_X8_isLetter rfl rfl rfl (by decide +kernel) ⟨nbq rfl, nbq rfl⟩) ⟨qab, va_recv (q := (RX8, TX8, 7)) hK hPc (ci := 8) (q0 := 0) rfl rfl, qae hPc hK hDc hNw⟩ rfl rfl hl.1 rfl (lv_room (nbq rfl)) (qaa qb5 1 rfl) ⟨nbq rfl, nbq rfl⟩) hS (fun q _ h => hFc q h) hFc (fun r7 u t H1 locs ht hvm hw hB hz1 hk1 hS => ?_)
      obtain ⟨hP1, hK1, hD1⟩ := hB
      rw [ht] at hP1
      obtain ⟨hP, hD⟩ := qah (wr := []) (w1 := (qtq a0 jif jb7 x1 jlr jjY jkC jkr jif cyB jjA)) (wn := (qtq a0 jif jb7 x1 jlr jjY jkC jkr jif cyB jjA)) hP hD [0, 1] [] hCc rfl (by decide +kernel) (by decide +kernel) rfl hk1 hFc hP1 hD1
      generalize H1 = H at hP hS ⊢
      refine lv_if_eq (tgt := 39) hx hb (qaa qb5 2 rfl) (by decide) (fun c8 => ?_) (fun c8 => ?_)
      · have hw := hw.1 c8
        refine lv_iconst (v := 0) hx hb (qaa qb5 5 rfl) (by decide) ?_
        refine lv_istore_n (lv' := [(3, .int 0), (2, .int x3), (0, .ref a0), (1, .ref a1)]) hx hb (qaa qb5 6 rfl) rfl hl (by decide) rfl (fun ls hl => ?_)
        obtain ⟨n9, hw⟩ := hw
        exact q62 dC dI cyB cyI cyJ cyP a0 a1 jif jjY jkr n1 b1 jb7 jkC jjA Q C0 n9 _ _ _ x1 jlr x3 0 hP hD hS (lv_sub hl [2, 3, 1, 0] rfl) hw
      · have hw := hw.2 c8
        refine lv_iconst (v := 0) hx hb (qaa qb5 3 rfl) (by decide) ?_
        exact ((W.zret (v := 0) hx hb hr rfl (fun t ht hW => ⟨⟨0, (x1, jlr), rfl, hw, by rw [ht]; exact hP, va_K.moved hW.alike hK, hD⟩, hS.F ht⟩) hS.2.2 (qaa qb5 4 rfl)))
set_option maxHeartbeats 4000000 in
set_option maxRecDepth 100000 in
theorem qYL (l : Launch) (dC : Nat → ClassId) (dI : Nat → Nat → Nat) (cyB cyI cyJ cyP : ClassId) (a0 a1 jbF jbU jcK sz : Nat) (jhW jaE jcI : Value) (jb5 : Int32) (jcq : NI) (jhS jeF jcU jbM : Int32) (jdC jfY : NI) (jb7 : Int32) {Q : Int32 → Int32 → Int32 → Int32 → NI → NI → Int32 → Prop} (hw : qEP jb5 jcq jhS jeF jcU jbM jdC jfY jb7 Q) : Met l yX4_readFact wsX4_readFact ({ frames := 5, cells := 0, slots := 0, locals := 108 }) (va_Pc [.ref a0, .ref a1] (cPs (zE) l (dC, dI) (kT cyB cyI cyJ cyP) (qu9 a0 jbU jcK jhW jaE jb7 a1 jbF jb5 jhS jeF jcI jcU jbM jbF cyB jcq jbU cyI jdC jcK cyI jfY) sz)) (va_Qv (fun (u : Int32 × Int32 × Int32 × Int32 × NI × NI × Int32) => Q u.1 u.2.1 u.2.2.1 u.2.2.2.1 u.2.2.2.2.1 u.2.2.2.2.2.1 u.2.2.2.2.2.2) (cB (dC, dI) (kT cyB cyI cyJ cyP) (va_A (qu9 a0 jbU jcK jhW jaE jb7 a1 jbF jb5 jhS jeF jcI jcU jbM jbF cyB jcq jbU cyI jdC jcK cyI jfY) sz) (fun u : Int32 × Int32 × Int32 × Int32 × NI × NI × Int32 => ((qu9 a0 jbU jcK jhW jaE u.2.2.2.2.2.2 a1 jbF jb5 u.1 u.2.1 jcI u.2.2.1 u.2.2.2.1 jbF cyB jcq jbU cyI u.2.2.2.2.1 jcK cyI u.2.2.2.2.2.1) : va_W))) (va_A (qu9 a0 jbU jcK jhW jaE jb7 a1 jbF jb5 jhS jeF jcI jcU jbM jbF cyB jcq jbU cyI jdC jcK cyI jfY) sz)) 0 0 (va_A (qu9 a0 jbU jcK jhW jaE jb7 a1 jbF jb5 jhS jeF jcI jcU jbM jbF cyB jcq jbU cyI jdC jcK cyI jfY) sz) := by
  refine Met.ofW (cc := cX4_readFact) (maxL := 2) (ret := none) (by decide) rfl ?_
  intro p e s m args below meth c s₁ B hml hv
  obtain ⟨rfl, ⟨hsz, hP, hK, hD0, hNw, hXl, hXu, hXn, hXt⟩, hE0⟩ := hv
  have hx := B.exec
  have hb := B.bytes
  have hr := B.returns
  have hts := atoms_spec (ws := wsX4_readFact) B.pre
  have hown : s.vm.findClass RX4 = some m.cls := findClass_of_methodNamed B.named
  have hlocks := B.notSynchronized
  subst hsz
  have hD := hD0.self (sz := s.heap.size)
  generalize hAe : va_A (qu9 a0 jbU jcK jhW jaE jb7 a1 jbF jb5 jhS jeF jcI jcU jbM jbF cyB jcq jbU cyI jdC jcK cyI jfY) s.heap.size = A at hD hXu hXn hE0 ⊢
  have hA : ∀ q : Nat, s.heap.size ≤ q → A q := fun q h => by rw [← hAe]; exact Or.inr h
  have hS : va_S A s.heap s.heap [] := va_S.rf
  have hP : va_P (dC, dI) vwCl (qu9 a0 jbU jcK jhW jaE jb7 a1 jbF jb5 jhS jeF jcI jcU jbM jbF cyB jcq jbU cyI jdC jcK cyI jfY) s.heap := hP
  have hl := lv_entry ([.ref a0, .ref a1]) (n := 2) (nbq rfl)
  rw [lg_entry_eq]
  generalize (lg_sl ([.ref a0, .ref a1]) ++ List.replicate (2 - (lg_sl ([.ref a0, .ref a1])).length) Slot.unset).toArray = ls at hl ⊢
  have hl : lv_has ls 2 [(0, .ref a0), (1, .ref a1)] := hl
  have hY : cfY l s A := ⟨hXl, hXu, hXn, hXt⟩
  have C0 : cfx p s m _ meth c cX4_readFact none wsX4_readFact RX4 2 A (dC, dI) (kT cyB cyI cyJ cyP) ∧ cfY l s A ∧ zE A s s.heap := ⟨⟨hx, hb, hr, hts, hown, hlocks, hml, hA, hK, hNw⟩, hY, hE0⟩
  have hE := hE0
  clear hAe
  obtain ⟨H, hH⟩ : ∃ H, H = s.heap := ⟨_, rfl⟩
  rw [← hH] at hP ⊢
  have hS : va_S A s.heap H [] := by rw [hH]; exact va_S.rf
  have hS := hS
  refine lv_aload_n hx hb (qaa qf1 0 rfl) rfl (lv_at hl 1 rfl) ?_
  obtain ⟨k1, hRk1, hZk1⟩ := qbbS hE
  refine va_ldcS hx hb hown hRk1 (qaa qf1 1 rfl) ?_
  obtain ⟨hCc, hPc, hDc, hFc⟩ := qac (ws' := (qt2 a1 jbF jb5 jhS jeF jcI jcU jbM jbF cyB jcq)) hP hD hS hA [1, 2] (by decide +kernel) rfl
  refine va_calli (va_runV (As := [.ref k1]) (rest := []) ⟨hx, hb, hml, hown, hts⟩ (qb9 l dC dI cyB cyI cyJ cyP a1 k1 jbF H.size (jcI) (.int jbM) 6 q5w jb5 jcU jcq jhS jeF hw) (cwV 1 hts gX4_readFact_X8_takesWord rfl rfl rfl (by decide +kernel) ⟨nbq rfl, nbq rfl⟩) ⟨qat qsS, va_recv (q := (RX8, TX8, 7)) hK hPc (ci := 8) (q0 := 0) rfl rfl, qbg qsS hPc hK hDc hNw hY ⟨hE, hZk1⟩ hS hFc⟩ rfl rfl hl.1 rfl (lv_room (nbq rfl)) (qaa qf1 2 rfl) ⟨nbq rfl, nbq rfl⟩) hS (fun q _ h => hFc q h) hFc (fun r4 u t H1 locs ht hvm hw hB hz1 hk1 hS => ?_)
  obtain ⟨x2, x3⟩ := u
  obtain ⟨hP1, hK1, hD1⟩ := hB
  rw [ht] at hP1
  obtain ⟨hP, hD⟩ := qad (wr := (quM a0 jbU jcK jhW jaE jb7 jbU cyI jdC jcK cyI jfY)) (w1 := (qt2 a1 jbF jb5 x2 x3 jcI jcU jbM jbF cyB jcq)) (wn := (qu9 a0 jbU jcK jhW jaE jb7 a1 jbF jb5 x2 x3 jcI jcU jbM jbF cyB jcq jbU cyI jdC jcK cyI jfY)) hP hD [1, 2] [0, 3, 4] [0, 3, 4, 1, 2] hCc rfl (by decide +kernel) (by decide +kernel) (by decide +kernel) rfl hk1 hFc hP1 hD1
  generalize H1 = H at hP hS ⊢
  refine lv_if_eq (tgt := 18) hx hb (qaa qf1 3 rfl) (by decide) (fun c5 => ?_) (fun c5 => ?_)
  · have hw := hw.1 c5
    refine lv_aload_n hx hb (qaa qf1 9 rfl) rfl (lv_at hl 1 rfl) ?_
    obtain ⟨k6, hRk6, hZk6⟩ := qbca hE
    refine va_ldcS hx hb hown hRk6 (qaa qf1 10 rfl) ?_
    obtain ⟨hCc, hPc, hDc, hFc⟩ := qac (ws' := (qt2 a1 jbF jb5 x2 x3 jcI jcU jbM jbF cyB jcq)) hP hD hS hA [1, 2] (by decide +kernel) rfl
    refine va_calli (va_runV (As := [.ref k6]) (rest := []) ⟨hx, hb, hml, hown, hts⟩ (qb9 l dC dI cyB cyI cyJ cyP a1 k6 jbF H.size (jcI) (.int jbM) 5 q4R jb5 jcU jcq x2 x3 hw) (cwV 1 hts gX4_readFact_X8_takesWord rfl rfl rfl (by decide +kernel) ⟨nbq rfl, nbq rfl⟩) ⟨qat qsS, va_recv (q := (RX8, TX8, 7)) hK hPc (ci := 8) (q0 := 0) rfl rfl, qbg qsS hPc hK hDc hNw hY ⟨hE, hZk6⟩ hS hFc⟩ rfl rfl hl.1 rfl (lv_room (nbq rfl)) (qaa qf1 11 rfl) ⟨nbq rfl, nbq rfl⟩) hS (fun q _ h => hFc q h) hFc (fun r9 u t H1 locs ht hvm hw hB hz1 hk1 hS => ?_)
    obtain ⟨x7, x8⟩ := u
    obtain ⟨hP1, hK1, hD1⟩ := hB
    rw [ht] at hP1
    obtain ⟨hP, hD⟩ := qad (wr := (quM a0 jbU jcK jhW jaE jb7 jbU cyI jdC jcK cyI jfY)) (w1 := (qt2 a1 jbF jb5 x7 x8 jcI jcU jbM jbF cyB jcq)) (wn := (qu9 a0 jbU jcK jhW jaE jb7 a1 jbF jb5 x7 x8 jcI jcU jbM jbF cyB jcq jbU cyI jdC jcK cyI jfY)) hP hD [1, 2] [0, 3, 4] [0, 3, 4, 1, 2] hCc rfl (by decide +kernel) (by decide +kernel) (by decide +kernel) rfl hk1 hFc hP1 hD1
    generalize H1 = H at hP hS ⊢
    refine lv_if_eq (tgt := 36) hx hb (qaa qf1 12 rfl) (by decide) (fun c10 => ?_) (fun c10 => ?_)
    · have hw := hw.1 c10
      refine lv_aload_n hx hb (qaa qd1 2 rfl) rfl (lv_at hl 1 rfl) ?_
      obtain ⟨k11, hRk11, hZk11⟩ := qbb7 hE
      refine va_ldcS hx hb hown hRk11 (qaa qd1 3 rfl) ?_
      obtain ⟨hCc, hPc, hDc, hFc⟩ := qac (ws' := (qt2 a1 jbF jb5 x7 x8 jcI jcU jbM jbF cyB jcq)) hP hD hS hA [1, 2] (by decide +kernel) rfl
      refine va_calli (va_runV (As := [.ref k11]) (rest := []) ⟨hx, hb, hml, hown, hts⟩ (qb9 l dC dI cyB cyI cyJ cyP a1 k11 jbF H.size (jcI) (.int jbM) 4 q5h jb5 jcU jcq x7 x8 hw) (cwV 1 hts gX4_readFact_X8_takesWord rfl rfl rfl (by decide +kernel) ⟨nbq rfl, nbq rfl⟩) ⟨qat qsS, va_recv (q := (RX8, TX8, 7)) hK hPc (ci := 8) (q0 := 0) rfl rfl, qbg qsS hPc hK hDc hNw hY ⟨hE, hZk11⟩ hS hFc⟩ rfl rfl hl.1 rfl (lv_room (nbq rfl)) (qaa qd1 4 rfl) ⟨nbq rfl, nbq rfl⟩) hS (fun q _ h => hFc q h) hFc (fun r14 u t H1 locs ht hvm hw hB hz1 hk1 hS => ?_)
      obtain ⟨x12, x13⟩ := u
      obtain ⟨hP1, hK1, hD1⟩ := hB
      rw [ht] at hP1
      obtain ⟨hP, hD⟩ := qad (wr := (quM a0 jbU jcK jhW jaE jb7 jbU cyI jdC jcK cyI jfY)) (w1 := (qt2 a1 jbF jb5 x12 x13 jcI jcU jbM jbF cyB jcq)) (wn := (qu9 a0 jbU jcK jhW jaE jb7 a1 jbF jb5 x12 x13 jcI jcU jbM jbF cyB jcq jbU cyI jdC jcK cyI jfY)) hP hD [1, 2] [0, 3, 4] [0, 3, 4, 1, 2] hCc rfl (by decide +kernel) (by decide +kernel) (by decide +kernel) rfl hk1 hFc hP1 hD1
      generalize H1 = H at hP hS ⊢
      refine lv_if_eq (tgt := 54) hx hb (qaa qd1 5 rfl) (by decide) (fun c15 => ?_) (fun c15 => ?_)
      · have hw := hw.1 c15
        refine lv_aload_n hx hb (qaa qd1 11 rfl) rfl (lv_at hl 1 rfl) ?_
        obtain ⟨k16, hRk16, hZk16⟩ := qbbw hE
        refine va_ldcS hx hb hown hRk16 (qaa qd1 12 rfl) ?_
        obtain ⟨hCc, hPc, hDc, hFc⟩ := qac (ws' := (qt2 a1 jbF jb5 x12 x13 jcI jcU jbM jbF cyB jcq)) hP hD hS hA [1, 2] (by decide +kernel) rfl
        refine va_calli (va_runV (As := [.ref k16]) (rest := []) ⟨hx, hb, hml, hown, hts⟩ (qb9 l dC dI cyB cyI cyJ cyP a1 k16 jbF H.size (jcI) (.int jbM) 4 q5f jb5 jcU jcq x12 x13 hw) (cwV 1 hts gX4_readFact_X8_takesWord rfl rfl rfl (by decide +kernel) ⟨nbq rfl, nbq rfl⟩) ⟨qat qsS, va_recv (q := (RX8, TX8, 7)) hK hPc (ci := 8) (q0 := 0) rfl rfl, qbg qsS hPc hK hDc hNw hY ⟨hE, hZk16⟩ hS hFc⟩ rfl rfl hl.1 rfl (lv_room (nbq rfl)) (qaa qd1 13 rfl) ⟨nbq rfl, nbq rfl⟩) hS (fun q _ h => hFc q h) hFc (fun r19 u t H1 locs ht hvm hw hB hz1 hk1 hS => ?_)
        obtain ⟨x17, x18⟩ := u
        obtain ⟨hP1, hK1, hD1⟩ := hB
        rw [ht] at hP1
        obtain ⟨hP, hD⟩ := qad (wr := (quM a0 jbU jcK jhW jaE jb7 jbU cyI jdC jcK cyI jfY)) (w1 := (qt2 a1 jbF jb5 x17 x18 jcI jcU jbM jbF cyB jcq)) (wn := (qu9 a0 jbU jcK jhW jaE jb7 a1 jbF jb5 x17 x18 jcI jcU jbM jbF cyB jcq jbU cyI jdC jcK cyI jfY)) hP hD [1, 2] [0, 3, 4] [0, 3, 4, 1, 2] hCc rfl (by decide +kernel) (by decide +kernel) (by decide +kernel) rfl hk1 hFc hP1 hD1
        generalize H1 = H at hP hS ⊢
        refine lv_if_eq (tgt := 72) hx hb (qaa qd1 14 rfl) (by decide) (fun c20 => ?_) (fun c20 => ?_)
        · have hw := hw.1 c20
          refine lv_aload_n hx hb (qaa qeh 4 rfl) rfl (lv_at hl 1 rfl) ?_
          obtain ⟨k21, hRk21, hZk21⟩ := qa6N hE
          refine va_ldcS hx hb hown hRk21 (qaa qeh 5 rfl) ?_
          obtain ⟨hCc, hPc, hDc, hFc⟩ := qac (ws' := (qt2 a1 jbF jb5 x17 x18 jcI jcU jbM jbF cyB jcq)) hP hD hS hA [1, 2] (by decide +kernel) rfl
          refine va_calli (va_runV (As := [.ref k21]) (rest := []) ⟨hx, hb, hml, hown, hts⟩ (qb9 l dC dI cyB cyI cyJ cyP a1 k21 jbF H.size (jcI) (.int jbM) 6 qVM jb5 jcU jcq x17 x18 hw) (cwV 1 hts gX4_readFact_X8_takesWord rfl rfl rfl (by decide +kernel) ⟨nbq rfl, nbq rfl⟩) ⟨qat qsS, va_recv (q := (RX8, TX8, 7)) hK hPc (ci := 8) (q0 := 0) rfl rfl, qbg qsS hPc hK hDc hNw hY ⟨hE, hZk21⟩ hS hFc⟩ rfl rfl hl.1 rfl (lv_room (nbq rfl)) (qaa qeh 6 rfl) ⟨nbq rfl, nbq rfl⟩) hS (fun q _ h => hFc q h) hFc (fun r24 u t H1 locs ht hvm hw hB hz1 hk1 hS => ?_)
          obtain ⟨x22, x23⟩ := u
          obtain ⟨hP1, hK1, hD1⟩ := hB
          rw [ht] at hP1
          obtain ⟨hP, hD⟩ := qad (wr := (quM a0 jbU jcK jhW jaE jb7 jbU cyI jdC jcK cyI jfY)) (w1 := (qt2 a1 jbF jb5 x22 x23 jcI jcU jbM jbF cyB jcq)) (wn := (qu9 a0 jbU jcK jhW jaE jb7 a1 jbF jb5 x22 x23 jcI jcU jbM jbF cyB jcq jbU cyI jdC jcK cyI jfY)) hP hD [1, 2] [0, 3, 4] [0, 3, 4, 1, 2] hCc rfl (by decide +kernel) (by decide +kernel) (by decide +kernel) rfl hk1 hFc hP1 hD1
          generalize H1 = H at hP hS ⊢
          refine lv_if_eq (tgt := 90) hx hb (qaa qeh 7 rfl) (by decide) (fun c25 => ?_) (fun c25 => ?_)
          · have hw := hw.1 c25
            refine lv_aload_n hx hb (qaa qeh 13 rfl) rfl (lv_at hl 1 rfl) ?_
            obtain ⟨k26, hRk26, hZk26⟩ := qa9h hE
            refine va_ldcS hx hb hown hRk26 (qaa qeh 14 rfl) ?_
            obtain ⟨hCc, hPc, hDc, hFc⟩ := qac (ws' := (qt2 a1 jbF jb5 x22 x23 jcI jcU jbM jbF cyB jcq)) hP hD hS hA [1, 2] (by decide +kernel) rfl
            refine va_calli (va_runV (As := [.ref k26]) (rest := []) ⟨hx, hb, hml, hown, hts⟩ (qb9 l dC dI cyB cyI cyJ cyP a1 k26 jbF H.size (jcI) (.int jbM) 3 qVK jb5 jcU jcq x22 x23 hw) (cwV 1 hts gX4_readFact_X8_takesWord rfl rfl rfl (by decide +kernel) ⟨nbq rfl, nbq rfl⟩) ⟨qat qsS, va_recv (q := (RX8, TX8, 7)) hK hPc (ci := 8) (q0 := 0) rfl rfl, qbg qsS hPc hK hDc hNw hY ⟨hE, hZk26⟩ hS hFc⟩ rfl rfl hl.1 rfl (lv_room (nbq rfl)) (qaa qeh 15 rfl) ⟨nbq rfl, nbq rfl⟩) hS (fun q _ h => hFc q h) hFc (fun r29 u t H1 locs ht hvm hw hB hz1 hk1 hS => ?_)
            obtain ⟨x27, x28⟩ := u
            obtain ⟨hP1, hK1, hD1⟩ := hB
            rw [ht] at hP1
            obtain ⟨hP, hD⟩ := qad (wr := (quM a0 jbU jcK jhW jaE jb7 jbU cyI jdC jcK cyI jfY)) (w1 := (qt2 a1 jbF jb5 x27 x28 jcI jcU jbM jbF cyB jcq)) (wn := (qu9 a0 jbU jcK jhW jaE jb7 a1 jbF jb5 x27 x28 jcI jcU jbM jbF cyB jcq jbU cyI jdC jcK cyI jfY)) hP hD [1, 2] [0, 3, 4] [0, 3, 4, 1, 2] hCc rfl (by decide +kernel) (by decide +kernel) (by decide +kernel) rfl hk1 hFc hP1 hD1
            generalize H1 = H at hP hS ⊢
            refine lv_if_eq (tgt := 108) hx hb (qaa qeg 0 rfl) (by decide) (fun c30 => ?_) (fun c30 => ?_)
            · have hw := hw.1 c30
              refine lv_aload_n hx hb (qaa qeg 6 rfl) rfl (lv_at hl 1 rfl) ?_
              obtain ⟨k31, hRk31, hZk31⟩ := qbav hE
              refine va_ldcS hx hb hown hRk31 (qaa qeg 7 rfl) ?_
              obtain ⟨hCc, hPc, hDc, hFc⟩ := qac (ws' := (qt2 a1 jbF jb5 x27 x28 jcI jcU jbM jbF cyB jcq)) hP hD hS hA [1, 2] (by decide +kernel) rfl
              refine va_calli (va_runV (As := [.ref k31]) (rest := []) ⟨hx, hb, hml, hown, hts⟩ (qb9 l dC dI cyB cyI cyJ cyP a1 k31 jbF H.size (jcI) (.int jbM) 4 qVI jb5 jcU jcq x27 x28 hw) (cwV 1 hts gX4_readFact_X8_takesWord rfl rfl rfl (by decide +kernel) ⟨nbq rfl, nbq rfl⟩) ⟨qat qsS, va_recv (q := (RX8, TX8, 7)) hK hPc (ci := 8) (q0 := 0) rfl rfl, qbg qsS hPc hK hDc hNw hY ⟨hE, hZk31⟩ hS hFc⟩ rfl rfl hl.1 rfl (lv_room (nbq rfl)) (qaa qeg 8 rfl) ⟨nbq rfl, nbq rfl⟩) hS (fun q _ h => hFc q h) hFc (fun r34 u t H1 locs ht hvm hw hB hz1 hk1 hS => ?_)
              obtain ⟨x32, x33⟩ := u
              obtain ⟨hP1, hK1, hD1⟩ := hB
              rw [ht] at hP1
              obtain ⟨hP, hD⟩ := qad (wr := (quM a0 jbU jcK jhW jaE jb7 jbU cyI jdC jcK cyI jfY)) (w1 := (qt2 a1 jbF jb5 x32 x33 jcI jcU jbM jbF cyB jcq)) (wn := (qu9 a0 jbU jcK jhW jaE jb7 a1 jbF jb5 x32 x33 jcI jcU jbM jbF cyB jcq jbU cyI jdC jcK cyI jfY)) hP hD [1, 2] [0, 3, 4] [0, 3, 4, 1, 2] hCc rfl (by decide +kernel) (by decide +kernel) (by decide +kernel) rfl hk1 hFc hP1 hD1
              generalize H1 = H at hP hS ⊢
              refine lv_if_eq (tgt := 127) hx hb (qaa qeg 9 rfl) (by decide) (fun c35 => ?_) (fun c35 => ?_)
              · have hw := hw.1 c35
                refine lv_aload_n hx hb (qaa qeg 15 rfl) rfl (lv_at hl 1 rfl) ?_
                obtain ⟨k36, hRk36, hZk36⟩ := qa6H hE
                refine va_ldcS hx hb hown hRk36 (qaa qcd 0 rfl) ?_
                obtain ⟨hCc, hPc, hDc, hFc⟩ := qac (ws' := (qt2 a1 jbF jb5 x32 x33 jcI jcU jbM jbF cyB jcq)) hP hD hS hA [1, 2] (by decide +kernel) rfl
                refine va_calli (va_runV (As := [.ref k36]) (rest := []) ⟨hx, hb, hml, hown, hts⟩ (qb9 l dC dI cyB cyI cyJ cyP a1 k36 jbF H.size (jcI) (.int jbM) 5 qVm jb5 jcU jcq x32 x33 hw) (cwV 1 hts gX4_readFact_X8_takesWord rfl rfl rfl (by decide +kernel) ⟨nbq rfl, nbq rfl⟩) ⟨qat qsS, va_recv (q := (RX8, TX8, 7)) hK hPc (ci := 8) (q0 := 0) rfl rfl, qbg qsS hPc hK hDc hNw hY ⟨hE, hZk36⟩ hS hFc⟩ rfl rfl hl.1 rfl (lv_room (nbq rfl)) (qaa qcd 1 rfl) ⟨nbq rfl, nbq rfl⟩) hS (fun q _ h => hFc q h) hFc (fun r39 u t H1 locs ht hvm hw hB hz1 hk1 hS => ?_)
                obtain ⟨x37, x38⟩ := u
                obtain ⟨hP1, hK1, hD1⟩ := hB
                rw [ht] at hP1
                obtain ⟨hP, hD⟩ := qad (wr := (quM a0 jbU jcK jhW jaE jb7 jbU cyI jdC jcK cyI jfY)) (w1 := (qt2 a1 jbF jb5 x37 x38 jcI jcU jbM jbF cyB jcq)) (wn := (qu9 a0 jbU jcK jhW jaE jb7 a1 jbF jb5 x37 x38 jcI jcU jbM jbF cyB jcq jbU cyI jdC jcK cyI jfY)) hP hD [1, 2] [0, 3, 4] [0, 3, 4, 1, 2] hCc rfl (by decide +kernel) (by decide +kernel) (by decide +kernel) rfl hk1 hFc hP1 hD1
                generalize H1 = H at hP hS ⊢
                refine lv_if_eq (tgt := 146) hx hb (qaa qcd 2 rfl) (by decide) (fun c40 => ?_) (fun c40 => ?_)
                · have hw := hw.1 c40
                  refine lv_aload_n hx hb (qaa qcd 8 rfl) rfl (lv_at hl 1 rfl) ?_
                  obtain ⟨hCc, hPc, hDc, hFc⟩ := qac (ws' := (qt2 a1 jbF jb5 x37 x38 jcI jcU jbM jbF cyB jcq)) hP hD hS hA [1, 2] (by decide +kernel) rfl
                  refine va_callv (va_runV (As := []) (rest := []) ⟨hx, hb, hml, hown, hts⟩ (qCs l dC dI cyB cyI cyJ cyP a1 jbF H.size (.int x38) (jcI) jb5 jcq x37 jcU jbM hw) (cwV 0 hts gX4_readFact_X8_blameSign rfl rfl rfl (by decide +kernel) ⟨nbq rfl, nbq rfl⟩) ⟨qab, va_recv (q := (RX8, TX8, 7)) hK hPc (ci := 8) (q0 := 0) rfl rfl, qae hPc hK hDc hNw⟩ rfl rfl hl.1 rfl (lv_room (nbq rfl)) (qaa qcd 9 rfl) ⟨nbq rfl, nbq rfl⟩) hS (fun q _ h => hFc q h) hFc (fun u t H1 locs ht hvm hw hB hz1 hk1 hS => ?_)
                  obtain ⟨x41, x42, x43⟩ := u
                  obtain ⟨hP1, hK1, hD1⟩ := hB
                  rw [ht] at hP1
                  obtain ⟨hP, hD⟩ := qad (wr := (quM a0 jbU jcK jhW jaE jb7 jbU cyI jdC jcK cyI jfY)) (w1 := (qt2 a1 jbF jb5 x41 x38 jcI x42 x43 jbF cyB jcq)) (wn := (qu9 a0 jbU jcK jhW jaE jb7 a1 jbF jb5 x41 x38 jcI x42 x43 jbF cyB jcq jbU cyI jdC jcK cyI jfY)) hP hD [1, 2] [0, 3, 4] [0, 3, 4, 1, 2] hCc rfl (by decide +kernel) (by decide +kernel) (by decide +kernel) rfl hk1 hFc hP1 hD1
                  generalize H1 = H at hP hS ⊢
                  exact ((W.vret hx hb hr (fun t ht hW => ⟨⟨(x41, x38, x42, x43, jdC, jfY, jb7), rfl, hw, by rw [ht]; exact hP, va_K.moved hW.alike hK, hD⟩, hS.F ht⟩) hS.2.2 (qaa qcd 10 rfl)))
                · have hw := hw.2 c40
                  refine lv_aload_n hx hb (qaa qcd 3 rfl) rfl (lv_at hl 0 rfl) ?_
                  refine lv_iconst (v := 1) hx hb (qaa qcd 4 rfl) (by decide) ?_
                  refine lv_bipush (v := 7) hx hb (qaa qcd 5 rfl) (by decide) ?_
                  obtain ⟨hCc, hPc, hDc, hFc⟩ := qac (ws' := (quM a0 jbU jcK jhW jaE jb7 jbU cyI jdC jcK cyI jfY)) hP hD hS hA [0, 3, 4] (by decide +kernel) rfl
                  refine va_callv (va_runV (As := [.int 1, .int 7]) (rest := []) ⟨hx, hb, hml, hown, hts⟩ (qrr l dC dI cyB cyI cyJ cyP a0 jbU jcK H.size (jhW) (jaE) jdC jfY jb7 1 7 hw) (cwV 2 hts gX4_readFact_X4_add rfl rfl rfl (by decide +kernel) ⟨nbq rfl, nbq rfl⟩) ⟨qab, va_recv (q := (RX4, TX4, 5)) hK hPc (ci := 4) (q0 := 0) rfl rfl, qae hPc hK hDc hNw⟩ rfl rfl hl.1 rfl (lv_room (nbq rfl)) (qaa qcd 6 rfl) ⟨nbq rfl, nbq rfl⟩) hS (fun q _ h => hFc q h) hFc (fun u t H1 locs ht hvm hw hB hz1 hk1 hS => ?_)
                  obtain ⟨f44, f45, x46⟩ := u
                  obtain ⟨hP1, hK1, hD1⟩ := hB
                  rw [ht] at hP1
                  obtain ⟨hP, hD⟩ := qad (wr := (qt2 a1 jbF jb5 x37 x38 jcI jcU jbM jbF cyB jcq)) (w1 := (quM a0 jbU jcK jhW jaE x46 jbU cyI f44 jcK cyI f45)) (wn := (qu9 a0 jbU jcK jhW jaE x46 a1 jbF jb5 x37 x38 jcI jcU jbM jbF cyB jcq jbU cyI f44 jcK cyI f45)) hP hD [0, 3, 4] [1, 2] [2, 0, 1, 3, 4] hCc rfl (by decide +kernel) (by decide +kernel) (by decide +kernel) rfl hk1 hFc hP1 hD1
                  generalize H1 = H at hP hS ⊢
                  refine lv_goto (tgt := 150) hx hb (qaa qcd 7 rfl) (by decide) ?_
                  exact ((W.vret hx hb hr (fun t ht hW => ⟨⟨(x37, x38, jcU, jbM, f44, f45, x46), rfl, hw, by rw [ht]; exact hP, va_K.moved hW.alike hK, hD⟩, hS.F ht⟩) hS.2.2 (qaa qcd 10 rfl)))
              · have hw := hw.2 c35
                refine lv_aload_n hx hb (qaa qeg 10 rfl) rfl (lv_at hl 0 rfl) ?_
                refine lv_iconst (v := 1) hx hb (qaa qeg 11 rfl) (by decide) ?_
                refine lv_bipush (v := 6) hx hb (qaa qeg 12 rfl) (by decide) ?_
                obtain ⟨hCc, hPc, hDc, hFc⟩ := qac (ws' := (quM a0 jbU jcK jhW jaE jb7 jbU cyI jdC jcK cyI jfY)) hP hD hS hA [0, 3, 4] (by decide +kernel) rfl
                refine va_callv (va_runV (As := [.int 1, .int 6]) (rest := []) ⟨hx, hb, hml, hown, hts⟩ (qrr l dC dI cyB cyI cyJ cyP a0 jbU jcK H.size (jhW) (jaE) jdC jfY jb7 1 6 hw) (cwV 2 hts gX4_readFact_X4_add rfl rfl rfl (by decide +kernel) ⟨nbq rfl, nbq rfl⟩) ⟨qab, va_recv (q := (RX4, TX4, 5)) hK hPc (ci := 4) (q0 := 0) rfl rfl, qae hPc hK hDc hNw⟩ rfl rfl hl.1 rfl (lv_room (nbq rfl)) (qaa qeg 13 rfl) ⟨nbq rfl, nbq rfl⟩) hS (fun q _ h => hFc q h) hFc (fun u t H1 locs ht hvm hw hB hz1 hk1 hS => ?_)
                obtain ⟨f47, f48, x49⟩ := u
                obtain ⟨hP1, hK1, hD1⟩ := hB
                rw [ht] at hP1
                obtain ⟨hP, hD⟩ := qad (wr := (qt2 a1 jbF jb5 x32 x33 jcI jcU jbM jbF cyB jcq)) (w1 := (quM a0 jbU jcK jhW jaE x49 jbU cyI f47 jcK cyI f48)) (wn := (qu9 a0 jbU jcK jhW jaE x49 a1 jbF jb5 x32 x33 jcI jcU jbM jbF cyB jcq jbU cyI f47 jcK cyI f48)) hP hD [0, 3, 4] [1, 2] [2, 0, 1, 3, 4] hCc rfl (by decide +kernel) (by decide +kernel) (by decide +kernel) rfl hk1 hFc hP1 hD1
                generalize H1 = H at hP hS ⊢
                refine lv_goto (tgt := 150) hx hb (qaa qeg 14 rfl) (by decide) ?_
                exact ((W.vret hx hb hr (fun t ht hW => ⟨⟨(x32, x33, jcU, jbM, f47, f48, x49), rfl, hw, by rw [ht]; exact hP, va_K.moved hW.alike hK, hD⟩, hS.F ht⟩) hS.2.2 (qaa qcd 10 rfl)))
            · have hw := hw.2 c30
              refine lv_aload_n hx hb (qaa qeg 1 rfl) rfl (lv_at hl 0 rfl) ?_
              refine lv_iconst (v := 1) hx hb (qaa qeg 2 rfl) (by decide) ?_
              refine lv_iconst (v := 5) hx hb (qaa qeg 3 rfl) (by decide) ?_
              obtain ⟨hCc, hPc, hDc, hFc⟩ := qac (ws' := (quM a0 jbU jcK jhW jaE jb7 jbU cyI jdC jcK cyI jfY)) hP hD hS hA [0, 3, 4] (by decide +kernel) rfl
              refine va_callv (va_runV (As := [.int 1, .int 5]) (rest := []) ⟨hx, hb, hml, hown, hts⟩ (qrr l dC dI cyB cyI cyJ cyP a0 jbU jcK H.size (jhW) (jaE) jdC jfY jb7 1 5 hw) (cwV 2 hts gX4_readFact_X4_add rfl rfl rfl (by decide +kernel) ⟨nbq rfl, nbq rfl⟩) ⟨qab, va_recv (q := (RX4, TX4, 5)) hK hPc (ci := 4) (q0 := 0) rfl rfl, qae hPc hK hDc hNw⟩ rfl rfl hl.1 rfl (lv_room (nbq rfl)) (qaa qeg 4 rfl) ⟨nbq rfl, nbq rfl⟩) hS (fun q _ h => hFc q h) hFc (fun u t H1 locs ht hvm hw hB hz1 hk1 hS => ?_)
              obtain ⟨f50, f51, x52⟩ := u
              obtain ⟨hP1, hK1, hD1⟩ := hB
              rw [ht] at hP1
              obtain ⟨hP, hD⟩ := qad (wr := (qt2 a1 jbF jb5 x27 x28 jcI jcU jbM jbF cyB jcq)) (w1 := (quM a0 jbU jcK jhW jaE x52 jbU cyI f50 jcK cyI f51)) (wn := (qu9 a0 jbU jcK jhW jaE x52 a1 jbF jb5 x27 x28 jcI jcU jbM jbF cyB jcq jbU cyI f50 jcK cyI f51)) hP hD [0, 3, 4] [1, 2] [2, 0, 1, 3, 4] hCc rfl (by decide +kernel) (by decide +kernel) (by decide +kernel) rfl hk1 hFc hP1 hD1
              generalize H1 = H at hP hS ⊢
              refine lv_goto (tgt := 150) hx hb (qaa qeg 5 rfl) (by decide) ?_
              exact ((W.vret hx hb hr (fun t ht hW => ⟨⟨(x27, x28, jcU, jbM, f50, f51, x52), rfl, hw, by rw [ht]; exact hP, va_K.moved hW.alike hK, hD⟩, hS.F ht⟩) hS.2.2 (qaa qcd 10 rfl)))
          · have hw := hw.2 c25
            refine lv_aload_n hx hb (qaa qeh 8 rfl) rfl (lv_at hl 0 rfl) ?_
            refine lv_iconst (v := 1) hx hb (qaa qeh 9 rfl) (by decide) ?_
            refine lv_iconst (v := 4) hx hb (qaa qeh 10 rfl) (by decide) ?_
            obtain ⟨hCc, hPc, hDc, hFc⟩ := qac (ws' := (quM a0 jbU jcK jhW jaE jb7 jbU cyI jdC jcK cyI jfY)) hP hD hS hA [0, 3, 4] (by decide +kernel) rfl
            refine va_callv (va_runV (As := [.int 1, .int 4]) (rest := []) ⟨hx, hb, hml, hown, hts⟩ (qrr l dC dI cyB cyI cyJ cyP a0 jbU jcK H.size (jhW) (jaE) jdC jfY jb7 1 4 hw) (cwV 2 hts gX4_readFact_X4_add rfl rfl rfl (by decide +kernel) ⟨nbq rfl, nbq rfl⟩) ⟨qab, va_recv (q := (RX4, TX4, 5)) hK hPc (ci := 4) (q0 := 0) rfl rfl, qae hPc hK hDc hNw⟩ rfl rfl hl.1 rfl (lv_room (nbq rfl)) (qaa qeh 11 rfl) ⟨nbq rfl, nbq rfl⟩) hS (fun q _ h => hFc q h) hFc (fun u t H1 locs ht hvm hw hB hz1 hk1 hS => ?_)
            obtain ⟨f53, f54, x55⟩ := u
            obtain ⟨hP1, hK1, hD1⟩ := hB
            rw [ht] at hP1
            obtain ⟨hP, hD⟩ := qad (wr := (qt2 a1 jbF jb5 x22 x23 jcI jcU jbM jbF cyB jcq)) (w1 := (quM a0 jbU jcK jhW jaE x55 jbU cyI f53 jcK cyI f54)) (wn := (qu9 a0 jbU jcK jhW jaE x55 a1 jbF jb5 x22 x23 jcI jcU jbM jbF cyB jcq jbU cyI f53 jcK cyI f54)) hP hD [0, 3, 4] [1, 2] [2, 0, 1, 3, 4] hCc rfl (by decide +kernel) (by decide +kernel) (by decide +kernel) rfl hk1 hFc hP1 hD1
            generalize H1 = H at hP hS ⊢
            refine lv_goto (tgt := 150) hx hb (qaa qeh 12 rfl) (by decide) ?_
            exact ((W.vret hx hb hr (fun t ht hW => ⟨⟨(x22, x23, jcU, jbM, f53, f54, x55), rfl, hw, by rw [ht]; exact hP, va_K.moved hW.alike hK, hD⟩, hS.F ht⟩) hS.2.2 (qaa qcd 10 rfl)))
        · have hw := hw.2 c20
          refine lv_aload_n hx hb (qaa qd1 15 rfl) rfl (lv_at hl 0 rfl) ?_
          refine lv_iconst (v := 1) hx hb (qaa qeh 0 rfl) (by decide) ?_
          refine lv_iconst (v := 3) hx hb (qaa qeh 1 rfl) (by decide) ?_
          obtain ⟨hCc, hPc, hDc, hFc⟩ := qac (ws' := (quM a0 jbU jcK jhW jaE jb7 jbU cyI jdC jcK cyI jfY)) hP hD hS hA [0, 3, 4] (by decide +kernel) rfl
          refine va_callv (va_runV (As := [.int 1, .int 3]) (rest := []) ⟨hx, hb, hml, hown, hts⟩ (qrr l dC dI cyB cyI cyJ cyP a0 jbU jcK H.size (jhW) (jaE) jdC jfY jb7 1 3 hw) (cwV 2 hts gX4_readFact_X4_add rfl rfl rfl (by decide +kernel) ⟨nbq rfl, nbq rfl⟩) ⟨qab, va_recv (q := (RX4, TX4, 5)) hK hPc (ci := 4) (q0 := 0) rfl rfl, qae hPc hK hDc hNw⟩ rfl rfl hl.1 rfl (lv_room (nbq rfl)) (qaa qeh 2 rfl) ⟨nbq rfl, nbq rfl⟩) hS (fun q _ h => hFc q h) hFc (fun u t H1 locs ht hvm hw hB hz1 hk1 hS => ?_)
          obtain ⟨f56, f57, x58⟩ := u
          obtain ⟨hP1, hK1, hD1⟩ := hB
          rw [ht] at hP1
          obtain ⟨hP, hD⟩ := qad (wr := (qt2 a1 jbF jb5 x17 x18 jcI jcU jbM jbF cyB jcq)) (w1 := (quM a0 jbU jcK jhW jaE x58 jbU cyI f56 jcK cyI f57)) (wn := (qu9 a0 jbU jcK jhW jaE x58 a1 jbF jb5 x17 x18 jcI jcU jbM jbF cyB jcq jbU cyI f56 jcK cyI f57)) hP hD [0, 3, 4] [1, 2] [2, 0, 1, 3, 4] hCc rfl (by decide +kernel) (by decide +kernel) (by decide +kernel) rfl hk1 hFc hP1 hD1
          generalize H1 = H at hP hS ⊢
          refine lv_goto (tgt := 150) hx hb (qaa qeh 3 rfl) (by decide) ?_
          exact ((W.vret hx hb hr (fun t ht hW => ⟨⟨(x17, x18, jcU, jbM, f56, f57, x58), rfl, hw, by rw [ht]; exact hP, va_K.moved hW.alike hK, hD⟩, hS.F ht⟩) hS.2.2 (qaa qcd 10 rfl)))
      · have hw := hw.2 c15
        refine lv_aload_n hx hb (qaa qd1 6 rfl) rfl (lv_at hl 0 rfl) ?_
        refine lv_iconst (v := 1) hx hb (qaa qd1 7 rfl) (by decide) ?_
        refine lv_iconst (v := 2) hx hb (qaa qd1 8 rfl) (by decide) ?_
        obtain ⟨hCc, hPc, hDc, hFc⟩ := qac (ws' := (quM a0 jbU jcK jhW jaE jb7 jbU cyI jdC jcK cyI jfY)) hP hD hS hA [0, 3, 4] (by decide +kernel) rfl
        refine va_callv (va_runV (As := [.int 1, .int 2]) (rest := []) ⟨hx, hb, hml, hown, hts⟩ (qrr l dC dI cyB cyI cyJ cyP a0 jbU jcK H.size (jhW) (jaE) jdC jfY jb7 1 2 hw) (cwV 2 hts gX4_readFact_X4_add rfl rfl rfl (by decide +kernel) ⟨nbq rfl, nbq rfl⟩) ⟨qab, va_recv (q := (RX4, TX4, 5)) hK hPc (ci := 4) (q0 := 0) rfl rfl, qae hPc hK hDc hNw⟩ rfl rfl hl.1 rfl (lv_room (nbq rfl)) (qaa qd1 9 rfl) ⟨nbq rfl, nbq rfl⟩) hS (fun q _ h => hFc q h) hFc (fun u t H1 locs ht hvm hw hB hz1 hk1 hS => ?_)
        obtain ⟨f59, f60, x61⟩ := u
        obtain ⟨hP1, hK1, hD1⟩ := hB
        rw [ht] at hP1
        obtain ⟨hP, hD⟩ := qad (wr := (qt2 a1 jbF jb5 x12 x13 jcI jcU jbM jbF cyB jcq)) (w1 := (quM a0 jbU jcK jhW jaE x61 jbU cyI f59 jcK cyI f60)) (wn := (qu9 a0 jbU jcK jhW jaE x61 a1 jbF jb5 x12 x13 jcI jcU jbM jbF cyB jcq jbU cyI f59 jcK cyI f60)) hP hD [0, 3, 4] [1, 2] [2, 0, 1, 3, 4] hCc rfl (by decide +kernel) (by decide +kernel) (by decide +kernel) rfl hk1 hFc hP1 hD1
        generalize H1 = H at hP hS ⊢
        refine lv_goto (tgt := 150) hx hb (qaa qd1 10 rfl) (by decide) ?_
        exact ((W.vret hx hb hr (fun t ht hW => ⟨⟨(x12, x13, jcU, jbM, f59, f60, x61), rfl, hw, by rw [ht]; exact hP, va_K.moved hW.alike hK, hD⟩, hS.F ht⟩) hS.2.2 (qaa qcd 10 rfl)))
    · have hw := hw.2 c10
      refine lv_aload_n hx hb (qaa qf1 13 rfl) rfl (lv_at hl 0 rfl) ?_
      refine lv_iconst (v := 1) hx hb (qaa qf1 14 rfl) (by decide) ?_
      refine lv_iconst (v := 1) hx hb (qaa qf1 15 rfl) (by decide) ?_
      obtain ⟨hCc, hPc, hDc, hFc⟩ := qac (ws' := (quM a0 jbU jcK jhW jaE jb7 jbU cyI jdC jcK cyI jfY)) hP hD hS hA [0, 3, 4] (by decide +kernel) rfl
      refine va_callv (va_runV (As := [.int 1, .int 1]) (rest := []) ⟨hx, hb, hml, hown, hts⟩ (qrr l dC dI cyB cyI cyJ cyP a0 jbU jcK H.size (jhW) (jaE) jdC jfY jb7 1 1 hw) (cwV 2 hts gX4_readFact_X4_add rfl rfl rfl (by decide +kernel) ⟨nbq rfl, nbq rfl⟩) ⟨qab, va_recv (q := (RX4, TX4, 5)) hK hPc (ci := 4) (q0 := 0) rfl rfl, qae hPc hK hDc hNw⟩ rfl rfl hl.1 rfl (lv_room (nbq rfl)) (qaa qd1 0 rfl) ⟨nbq rfl, nbq rfl⟩) hS (fun q _ h => hFc q h) hFc (fun u t H1 locs ht hvm hw hB hz1 hk1 hS => ?_)
      obtain ⟨f62, f63, x64⟩ := u
      obtain ⟨hP1, hK1, hD1⟩ := hB
      rw [ht] at hP1
      obtain ⟨hP, hD⟩ := qad (wr := (qt2 a1 jbF jb5 x7 x8 jcI jcU jbM jbF cyB jcq)) (w1 := (quM a0 jbU jcK jhW jaE x64 jbU cyI f62 jcK cyI f63)) (wn := (qu9 a0 jbU jcK jhW jaE x64 a1 jbF jb5 x7 x8 jcI jcU jbM jbF cyB jcq jbU cyI f62 jcK cyI f63)) hP hD [0, 3, 4] [1, 2] [2, 0, 1, 3, 4] hCc rfl (by decide +kernel) (by decide +kernel) (by decide +kernel) rfl hk1 hFc hP1 hD1
      generalize H1 = H at hP hS ⊢
      refine lv_goto (tgt := 150) hx hb (qaa qd1 1 rfl) (by decide) ?_
      exact ((W.vret hx hb hr (fun t ht hW => ⟨⟨(x7, x8, jcU, jbM, f62, f63, x64), rfl, hw, by rw [ht]; exact hP, va_K.moved hW.alike hK, hD⟩, hS.F ht⟩) hS.2.2 (qaa qcd 10 rfl)))
  · have hw := hw.2 c5
    refine lv_aload_n hx hb (qaa qf1 4 rfl) rfl (lv_at hl 0 rfl) ?_
    refine lv_iconst (v := 1) hx hb (qaa qf1 5 rfl) (by decide) ?_
    refine lv_iconst (v := 0) hx hb (qaa qf1 6 rfl) (by decide) ?_
    obtain ⟨hCc, hPc, hDc, hFc⟩ := qac (ws' := (quM a0 jbU jcK jhW jaE jb7 jbU cyI jdC jcK cyI jfY)) hP hD hS hA [0, 3, 4] (by decide +kernel) rfl
    refine va_callv (va_runV (As := [.int 1, .int 0]) (rest := []) ⟨hx, hb, hml, hown, hts⟩ (qrr l dC dI cyB cyI cyJ cyP a0 jbU jcK H.size (jhW) (jaE) jdC jfY jb7 1 0 hw) (cwV 2 hts gX4_readFact_X4_add rfl rfl rfl (by decide +kernel) ⟨nbq rfl, nbq rfl⟩) ⟨qab, va_recv (q := (RX4, TX4, 5)) hK hPc (ci := 4) (q0 := 0) rfl rfl, qae hPc hK hDc hNw⟩ rfl rfl hl.1 rfl (lv_room (nbq rfl)) (qaa qf1 7 rfl) ⟨nbq rfl, nbq rfl⟩) hS (fun q _ h => hFc q h) hFc (fun u t H1 locs ht hvm hw hB hz1 hk1 hS => ?_)
    obtain ⟨f65, f66, x67⟩ := u
    obtain ⟨hP1, hK1, hD1⟩ := hB
    rw [ht] at hP1
    obtain ⟨hP, hD⟩ := qad (wr := (qt2 a1 jbF jb5 x2 x3 jcI jcU jbM jbF cyB jcq)) (w1 := (quM a0 jbU jcK jhW jaE x67 jbU cyI f65 jcK cyI f66)) (wn := (qu9 a0 jbU jcK jhW jaE x67 a1 jbF jb5 x2 x3 jcI jcU jbM jbF cyB jcq jbU cyI f65 jcK cyI f66)) hP hD [0, 3, 4] [1, 2] [2, 0, 1, 3, 4] hCc rfl (by decide +kernel) (by decide +kernel) (by decide +kernel) rfl hk1 hFc hP1 hD1
    generalize H1 = H at hP hS ⊢
    refine lv_goto (tgt := 150) hx hb (qaa qf1 8 rfl) (by decide) ?_
    exact ((W.vret hx hb hr (fun t ht hW => ⟨⟨(x2, x3, jcU, jbM, f65, f66, x67), rfl, hw, by rw [ht]; exact hP, va_K.moved hW.alike hK, hD⟩, hS.F ht⟩) hS.2.2 (qaa qcd 10 rfl)))
