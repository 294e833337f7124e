import java.util.Random;

/** Texts drawn by the document's grammar, some of them with a fault put in. */
final class Texts {
    private final Random random;

    Texts(Random random) {
        this.random = random;
    }

    private int upTo(int most) {
        return random.nextInt(most + 1);
    }

    private boolean seldom(int one) {
        return random.nextInt(one) == 0;
    }

    private String gap() {
        return seldom(12) ? "  " : seldom(3) ? " " : "";
    }

    private String number(int value) {
        return (seldom(40) ? "00" : "") + value;
    }

    private String spoiled(String text, int most) {
        StringBuilder b = new StringBuilder(text);
        if (seldom(5)) {
            for (int i = upTo(2); i >= 0; i--) {
                int at = upTo(Math.max(0, b.length() - 1));
                String signs = "0123456789abcdefghijklmnopqrstuvwxyz;[](),+-*/% \u0000\u00ff\n";
                String words = "form hare fox debt leap box pay day again least most still strong 99 31 1000";
                switch (random.nextInt(6)) {
                    case 0 -> b.insert(at, signs.charAt(upTo(signs.length() - 1)));
                    case 1 -> b.insert(at, words.split(" ")[upTo(15)]);
                    case 2 -> b.insert(at, random.nextInt(1000));
                    case 3 -> b.setLength(at);
                    case 4 -> {
                        if (b.length() > 0) {
                            b.deleteCharAt(at);
                        }
                    }
                    default -> {
                        if (b.length() > 0) {
                            b.setCharAt(at, signs.charAt(upTo(signs.length() - 1)));
                        }
                    }
                }
            }
        }
        if (b.length() > most) {
            b.setLength(most);
        }
        return b.toString();
    }

    String down() {
        StringBuilder b = new StringBuilder();
        int wide = seldom(3) ? 30 : seldom(2) ? 15 : 7;
        int forms = seldom(8) ? upTo(9) : 3 + upTo(5);
        int hares = seldom(8) ? upTo(7) : 2 + upTo(4);
        int foxes = seldom(20) ? 5 : upTo(4);
        for (int i = 0; i < foxes && seldom(2); i++, foxes--) {
            b.append("fox").append(gap()).append(number(upTo(wide))).append(" ").append(number(upTo(wide))).append(";");
        }
        for (int i = 0; i < forms; i++) {
            b.append("form").append(gap()).append(number(upTo(wide))).append(" ").append(number(upTo(wide)))
                    .append(gap()).append(";").append(gap());
        }
        for (int i = 0; i < hares; i++) {
            b.append("hare").append(gap()).append(number(upTo(Math.max(0, forms - 1)))).append(" ")
                    .append(number(1 + upTo(8))).append(gap()).append(";");
        }
        if (seldom(3) && foxes > 1) {
            foxes = 0;
            b.append("fox 1 1;fox 3 3;fox 5 5;fox 4 1;");
        }
        for (int i = 0; i < foxes; i++) {
            b.append("fox").append(gap()).append(number(upTo(wide))).append(" ").append(number(upTo(wide))).append(";");
        }
        int debts = hares < 2 ? 0 : seldom(6) ? 60 : upTo(12);
        for (int i = 0; i < debts && b.length() < 590; i++) {
            int a = upTo(hares - 1);
            int c = (a + 1 + upTo(hares - 2)) % hares;
            b.append("debt").append(gap()).append(a).append(" ").append(c).append(" ").append(upTo(99)).append(";");
        }
        b.append(gap());
        return spoiled(b.toString(), 600);
    }

    String law() {
        String text = sum(seldom(4) ? 7 : 2);
        return spoiled(text.length() > 150 ? sum(1) : text, 150);
    }

    private String sum(int depth) {
        StringBuilder b = new StringBuilder(product(depth));
        for (int i = seldom(3) ? upTo(3) : upTo(1); i > 0; i--) {
            b.append(gap()).append(random.nextBoolean() ? "+" : "-").append(gap()).append(product(depth));
        }
        return b.append(gap()).toString();
    }

    private String product(int depth) {
        StringBuilder b = new StringBuilder(unit(depth));
        for (int i = seldom(3) ? upTo(2) : 0; i > 0; i--) {
            b.append(gap()).append("*/%".charAt(upTo(2))).append(gap()).append(unit(depth));
        }
        return b.toString();
    }

    private String unit(int depth) {
        if (depth > 0 && seldom(2)) {
            if (seldom(2)) {
                return "(" + gap() + sum(depth - 1) + ")";
            }
            return (seldom(2) ? "least" : "most") + gap() + "[" + sum(depth - 1) + "," + sum(depth - 1) + "]";
        }
        if (seldom(2)) {
            return number(seldom(4) ? upTo(999) : upTo(12));
        }
        return "strong still owes owed others day hare leaps".split(" ")[upTo(7)];
    }

    String book(int forms) {
        StringBuilder b = new StringBuilder();
        int lines = upTo(seldom(4) ? Math.max(1, forms) : 2);
        int from = upTo(Math.max(0, forms - 1));
        for (int i = 0; i < lines; i++) {
            b.append(gap()).append((from + i) % Math.max(1, forms)).append(" ").append(upTo(seldom(5) ? 6 : 2))
                    .append(gap()).append(";");
        }
        return spoiled(b.toString(), 60);
    }

    String work(int hares, int forms) {
        StringBuilder b = new StringBuilder();
        if (hares > 0) {
            int many = 1 + upTo(9);
            for (int i = 0; i < many; i++) {
                b.append(step(hares, forms, seldom(4) ? 7 : 2)).append(gap()).append(";").append(gap());
            }
        } else {
            b.append("again ").append(upTo(40)).append("[day;day;day;];");
        }
        if (seldom(4)) {
            b.insert(0, "again " + upTo(40) + "[day;day;];");
        }
        if (hares > 0 && seldom(2)) {
            b.setLength(0);
            b.append(restless(hares, forms));
        }
        String text = b.toString();
        while (text.length() > 150) {
            int cut = text.lastIndexOf(';', text.length() - 2);
            text = cut < 0 ? "" : text.substring(0, cut + 1);
            if (text.chars().filter(c -> c == '[').count() != text.chars().filter(c -> c == ']').count()) {
                text = seldom(8) ? text : text.replace("again", "day;again").substring(0, Math.max(0, text.indexOf("again")));
            }
        }
        return spoiled(text, 150);
    }

    /** Weeks in which some never sit still, so that foxes have whom to catch. */
    private String restless(int hares, int forms) {
        StringBuilder b = new StringBuilder("again " + upTo(40) + "[");
        for (int i = upTo(3); i >= 0; i--) {
            b.append(step(hares, forms, 0)).append(";");
        }
        b.append("leap ").append(upTo(hares - 1)).append(" ").append(upTo(forms - 1)).append(";day;");
        b.append("box ").append(upTo(hares - 1)).append(" ").append(upTo(hares - 1)).append(";");
        return b.append(seldom(3) ? "" : "day;").append("];").toString();
    }

    /** Days alone, to come to the last year. */
    String days() {
        return "again 40[day;day;day;day;];" + (seldom(2) ? "day;" : "again 40[];again 40[day;];");
    }

    private String step(int hares, int forms, int depth) {
        int a = upTo(hares - 1);
        int c = upTo(hares - 1);
        switch (random.nextInt(9)) {
            case 0, 1, 2: return "leap" + gap() + a + " " + upTo(forms - 1);
            case 3: case 4: return "box" + gap() + a + " " + c;
            case 5: return "pay" + gap() + a + " " + c + " " + (1 + upTo(seldom(3) ? 98 : 9));
            case 6: if (depth > 0) {
                StringBuilder b = new StringBuilder("again" + gap() + upTo(seldom(3) ? 40 : 4) + gap() + "[" + gap());
                for (int i = upTo(2); i > 0; i--) {
                    b.append(step(hares, forms, depth - 1)).append(gap()).append(";");
                }
                return b.append(gap()).append("]").toString();
            }
            return "day";
            default: return "day";
        }
    }
}
