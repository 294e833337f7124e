/** Promises 15 to 35: what can be asked, none of which stays changed by it. */
public final class AskedTest {
    private static final Check CHECK = new Check();
    private static final String DOWN = "form 0 0;form 5 0;form 5 6;form 20 20;"
            + "hare 0 3;hare 0 5;hare 3 9;hare 1 5;fox 6 0;fox 20 24;debt 0 1 30;debt 2 1 10;debt 1 2 10;";

    private static void wouldLeap() {
        MarchHares x = new MarchHares();
        CHECK.due("without a law", x.would(9, 3, 999, 999, 5, 31, 5, 999), 10);
        CHECK.due("0 at least", x.would(0, 999, 0, 0, 0, 1, 0, 0), 0);
        Check.law(x, "strong + still + owes + owed + others + day + hare + leaps");
        CHECK.due("the least", x.would(0, 0, 0, 0, 0, 1, 0, 0), 1);
        CHECK.due("60 at most", x.would(9, 999, 999, 999, 5, 31, 5, 999), 60);
        int[] least = {0, 0, 0, 0, 0, 1, 0, 0};
        int[] most = {9, 999, 999, 999, 5, 31, 5, 999};
        for (int which = 0; which < 8; which++) {
            int[] low = least.clone();
            low[which]--;
            int[] high = most.clone();
            high[which]++;
            CHECK.illegal("too little " + which, () -> all(x, low));
            CHECK.illegal("too much " + which, () -> all(x, high));
        }
        CHECK.due("counted", x.status(1), 16);
    }

    private static int all(MarchHares x, int[] f) {
        return x.would(f[0], f[1], f[2], f[3], f[4], f[5], f[6], f[7]);
    }

    private static void leapByLaw() {
        MarchHares x = Check.of(DOWN);
        Check.law(x, "strong");
        CHECK.due("strong", x.hare(2, 7), 9);
        Check.law(x, "owes");
        CHECK.due("owes", x.hare(0, 7), 30);
        Check.law(x, "owed");
        CHECK.due("owed", x.hare(1, 7), 40);
        Check.law(x, "others+10");
        CHECK.due("others", x.hare(0, 7), 11);
        CHECK.due("others", x.hare(2, 7), 10);
        Check.law(x, "hare");
        CHECK.due("hare", x.hare(3, 7), 3);
        Check.law(x, "leaps*10+day");
        CHECK.due("no leap", x.hare(0, 7), 1);
        Check.law(x, "5");
        Check.work(x, "leap 0 1;leap 0 0;day;day;");
        Check.law(x, "leaps*10+day");
        CHECK.due("leaps, day", x.hare(0, 7), 23);
        Check.law(x, "still");
        CHECK.due("still", x.hare(0, 7), 1);
        CHECK.due("still", x.hare(1, 7), 2);
    }

    private static void aheadOf() {
        MarchHares x = Check.of(DOWN);
        Check.law(x, "9");
        Check.work(x, "again 28[day;];leap 0 1;box 3 0;");
        CHECK.due("now", x.ahead(0, 0), 29);
        CHECK.due("now, caught", x.ahead(0, 1), 0);
        CHECK.due("day 31", x.ahead(2, 0), 31);
        CHECK.due("not yet", x.ahead(2, 1), 0);
        CHECK.due("behind the stroke", x.ahead(3, 0), 1);
        CHECK.due("caught by it", x.ahead(3, 1), 9);
        CHECK.due("debts by it", x.ahead(3, 2), 20);
        CHECK.due("debts ahead of it", x.ahead(2, 2), 50);
        CHECK.due("in 99 days", x.ahead(99, 0), (29 + 99 - 1) % 31 + 1);
        CHECK.due("nothing stays changed", x.told(3), 29);
        CHECK.due("nothing stays changed", x.told(6), 9);
        CHECK.due("nothing stays changed", x.told(8), 50);
        CHECK.illegal("n -1", () -> x.ahead(-1, 0));
        CHECK.illegal("n 100", () -> x.ahead(100, 0));
        CHECK.illegal("what 3", () -> x.ahead(0, 3));
        CHECK.illegal("what -1", () -> x.ahead(0, -1));
    }

    private static void hopping() {
        MarchHares x = Check.of("form 0 0;form 4 0;form 8 0;form 8 4;form 30 30;form 0 0;hare 0 1;hare 1 9;fox 0 0;");
        Check.law(x, "4+hare*4");
        int[] hops = {0, 1, 2, 3, -1, 1};
        for (int form = 0; form < 6; form++) {
            CHECK.due("hops to " + form, x.hops(0, form), hops[form]);
        }
        CHECK.due("hops of a wider one", x.hops(1, 3), 1);
        CHECK.due("range", x.range(0), 2 + 32);
        CHECK.due("range", x.range(1), 1 + 4 + 8 + 32);
        Check.law(x, "4");
        Check.work(x, "again 30[day;];leap 0 1;leap 0 0;day;");
        CHECK.due("caught", x.told(5), 1);
        CHECK.due("hops of a caught one", x.hops(0, 0), -1);
        CHECK.due("range of a caught one", x.range(0), 0);
        CHECK.noSuch("no such hare", () -> x.hops(2, 0));
        CHECK.noSuch("no such form", () -> x.hops(0, 6));
        CHECK.noSuch("no such hare", () -> x.range(2));
        CHECK.noSuch("no such hare", () -> x.range(-1));
    }

    private static void seating() {
        MarchHares x = Check.of(DOWN);
        CHECK.due("seats", x.seats(), 3);
        int[] given = {0, -1, 3, 2};
        for (int hare = 0; hare < 4; hare++) {
            CHECK.due("seat of " + hare, x.seat(hare), given[hare]);
        }
        // The first hare must leave the least form to the second, which has no other.
        MarchHares y = Check.of("form 0 0;form 0 5;form 0 8;hare 1 5;hare 0 1;hare 2 2;fox 30 30;");
        Check.law(y, "strong");
        CHECK.due("seats", y.seats(), 3);
        CHECK.due("the first", y.seat(0), 1);
        CHECK.due("the second", y.seat(1), 0);
        CHECK.due("the third", y.seat(2), 2);
        // Of alike ways the first hare has the seat.
        MarchHares z = Check.of("form 0 0;form 0 1;hare 1 1;hare 1 1;hare 1 1;fox 0 4;fox 30 30;");
        CHECK.due("form 0 alone is safe", z.told(7), 1);
        CHECK.due("seats", z.seats(), 1);
        CHECK.due("the first", z.seat(0), 0);
        CHECK.due("the second", z.seat(1), -1);
        Check.law(z, "hare");
        CHECK.due("seats", z.seats(), 1);
        CHECK.due("the first can't", z.seat(0), -1);
        CHECK.due("the second can", z.seat(1), 0);
        Check.work(z, "again 31[day;];");
        CHECK.due("none is caught", z.told(5), 0);
        Check.work(z, "again 30[day;];box 1 2;day;");
        CHECK.due("two are caught", z.told(5), 6);
        CHECK.due("seats of the one", z.seats(), 0);
        CHECK.due("a caught one", z.seat(1), -1);
        CHECK.noSuch("no such hare", () -> z.seat(3));
        CHECK.noSuch("no such hare", () -> z.seat(-1));
        CHECK.due("without hares", new MarchHares().seats(), 0);
    }

    private static void ringing() {
        MarchHares x = Check.of("form 0 0;form 9 9;form 0 9;form 9 0;");
        CHECK.due("ring", x.ring(), 36);
        int[] row = {0, 2, 1, 3, -1};
        for (int k = 0; k < 5; k++) {
            CHECK.due("ringed " + k, x.ringed(k), row[k]);
        }
        CHECK.illegal("below 0", () -> x.ringed(-1));
        CHECK.illegal("below 0", () -> x.ringed(Integer.MIN_VALUE));
        MarchHares eight = Check.of("form 0 0;form 30 30;form 10 0;form 30 10;form 0 30;form 20 0;form 30 0;form 0 10;");
        CHECK.due("ring of eight", eight.ring(), 120);
        int[] around = {0, 2, 5, 6, 3, 1, 4, 7, -1};
        for (int k = 0; k < 9; k++) {
            CHECK.due("ringed " + k, eight.ringed(k), around[k]);
        }
        MarchHares two = Check.of("form 3 3;form 5 4;");
        CHECK.due("ring of two", two.ring(), 6);
        MarchHares one = Check.of("form 3 3;");
        CHECK.due("ring of one", one.ring(), 0);
        CHECK.due("ringed 0 of one", one.ringed(0), 0);
        CHECK.due("ringed 1 of one", one.ringed(1), -1);
        CHECK.due("ring of none", new MarchHares().ring(), 0);
        CHECK.due("ringed of none", new MarchHares().ringed(0), -1);
        MarchHares alike = Check.of("form 3 3;form 3 3;form 3 3;");
        CHECK.due("the first of alike rows", alike.ringed(1) * 10 + alike.ringed(2), 12);
    }

    private static void boutsOfAll() {
        MarchHares x = Check.of("form 3 3;hare 0 5;hare 0 5;hare 0 4;fox 3 6;");
        CHECK.due("bouts 0", x.bouts(0), 3);
        CHECK.due("bouts 1", x.bouts(1), 3);
        CHECK.due("bouts 2", x.bouts(2), 0);
        MarchHares weak = Check.of("form 0 0;form 9 9;hare 0 1;hare 1 1;");
        CHECK.due("who stood already wins", weak.bouts(0), 1);
        CHECK.due("wherever they sit", weak.bouts(1), 1);
        MarchHares six = Check.of("form 0 0;hare 0 1;hare 0 1;hare 0 1;hare 0 1;hare 0 1;hare 0 9;");
        CHECK.due("the strongest in all orders", six.bouts(5), 720);
        MarchHares tired = Check.of("form 0 0;hare 0 3;hare 0 2;hare 0 2;hare 0 2;");
        // Hare 0 beats two as 3 and 2, then stands as 1: it must not stand among the first two.
        CHECK.due("tired by three", tired.bouts(0), 12);
        // Hare 3 beats two as 2 and 1, then stands as 0, which beats none.
        MarchHares ones = Check.of("form 0 0;hare 0 1;hare 0 1;hare 0 1;hare 0 2;");
        CHECK.due("0 at least, and no more", ones.bouts(3), 12);
        int sum = tired.bouts(0) + tired.bouts(1) + tired.bouts(2) + tired.bouts(3);
        CHECK.due("one of them in each order", sum, 24);
        MarchHares alone = Check.of("form 0 0;hare 0 3;hare 0 3;fox 0 0;");
        CHECK.due("one alone stands", Check.of("form 0 0;hare 0 3;").bouts(0), 1);
        Check.work(alone, "again 30[day;];box 0 1;day;");
        CHECK.due("both caught", alone.told(5), 3);
        CHECK.due("caught", alone.bouts(0), 0);
        CHECK.noSuch("no such hare", () -> alone.bouts(2));
        CHECK.noSuch("no such hare", () -> alone.bouts(-1));
    }

    private static void fitting() {
        MarchHares x = Check.of(DOWN);
        CHECK.due("without a book all pairs", x.fits(0), 16);
        CHECK.due("the first", x.fits(1), 0);
        CHECK.due("look", x.look(0), 0);
        CHECK.due("at the worst", x.look(1), 8);
        Check.book(x, "0 1;1 2;");
        CHECK.due("hare 0 or 1 leapt to form 1", x.fits(0), 2);
        CHECK.due("the first", x.fits(1), 1);
        CHECK.due("look: form 2 tells nothing, nor 3", x.look(0), 2);
        CHECK.due("at the worst", x.look(1), 2);
        Check.book(x, "0 2;3 1;");
        // Where it sits, for each of four; and hare 3 from form 1 to 2.
        CHECK.due("nobody, or hare 3 to form 2", x.fits(0), 5);
        CHECK.due("the first", x.fits(1), 0);
        CHECK.due("look", x.look(0), 1);
        CHECK.due("at the worst", x.look(1), 4);
        Check.book(x, "0 6;");
        CHECK.due("none fits", x.fits(0), 0);
        CHECK.due("no first", x.fits(1), -1);
        CHECK.due("look at the first all the same", x.look(0), 1);
        CHECK.due("none left", x.look(1), 0);
        Check.book(x, "3 1;1 1;2 0;0 2;");
        CHECK.due("all lines right as they sit", x.fits(0), 4);
        CHECK.due("all forms in lines", x.look(0), -1);
        CHECK.due("all forms in lines", x.look(1), -1);
        Check.book(x, "1 0;");
        Check.law(x, "9");
        Check.work(x, "again 30[day;];leap 0 1;box 0 3;leap 0 0;day;");
        CHECK.due("hare 3 is caught", x.told(5), 8);
        CHECK.due("three hares to three forms", x.fits(0), 9);
        for (int what : new int[] {-1, 2}) {
            CHECK.illegal("fits", () -> x.fits(what));
            CHECK.illegal("look", () -> x.look(what));
        }
    }

    private static void watching() {
        MarchHares x = Check.of(DOWN);
        CHECK.due("watch 0", x.watch(0), 15);
        CHECK.due("watch 4", x.watch(4), 15);
        CHECK.due("watch 5: form 0 sees 1", x.watch(5), 1 + 4 + 8);
        CHECK.due("watch 6", x.watch(6), 2 + 8);
        CHECK.due("watch 28: form 0 sees 1 and 2", x.watch(28), 1 + 8);
        CHECK.due("watch 29: form 2 sees all", x.watch(29), 4);
        CHECK.due("watch 60", x.watch(60), 1);
        CHECK.due("none to watch", new MarchHares().watch(5), 0);
        CHECK.illegal("d -1", () -> x.watch(-1));
        CHECK.illegal("d 61", () -> x.watch(61));
    }

    private static void fewSeen() {
        MarchHares x = new MarchHares();
        long[][] due = {{0, 0, 9, 1, 1}, {2, 0, 8, 1, 4}, {2, 1, 8, 3, 4}, {3, 1, 4, 27, 32}, {12, 12, 5, 1, 1},
            {1, 0, 16, 0, 1}, {1, 1, 16, 1, 1}, {5, 0, 0, 1, 1}, {3, 12, 7, 1, 1}, {1, 0, 1, 15, 16},
            {2, 1, 1, 255, 256}, {12, 11, 16, 0, 1}, {12, 11, 1, (1L << 48) - 1, 1L << 48},
            {12, 0, 1, 129746337890625L, 1L << 48}};
        for (long[] row : due) {
            String what = "few of " + row[0] + ", " + row[1] + ", " + row[2];
            CHECK.due(what, x.few((int) row[0], (int) row[1], (int) row[2], 0), row[3]);
            CHECK.due(what, x.few((int) row[0], (int) row[1], (int) row[2], 1), row[4]);
        }
        int[][] wrong = {{-1, 0, 0, 0}, {13, 0, 0, 0}, {0, -1, 0, 0}, {0, 13, 0, 0}, {0, 0, -1, 0}, {0, 0, 17, 0},
            {0, 0, 0, -1}, {0, 0, 0, 2}};
        for (int[] w : wrong) {
            CHECK.illegal("few", () -> x.few(w[0], w[1], w[2], w[3]));
        }
    }

    private static void roads() {
        MarchHares x = new MarchHares();
        CHECK.due("two rest", x.road(3, 5, 0), 2);
        CHECK.due("the one runs, the other turns", x.road(3, 5, 1), 1);
        CHECK.due("together", x.road(3, 5, 2), 8);
        CHECK.due("v 0", x.road(0, 1, 0), 2);
        CHECK.due("w 0: all rest", x.road(9, 0, 0), 4);
        CHECK.due("both run", x.road(9, 0, 1), 0);
        CHECK.due("together", x.road(9, 0, 2), 0);
        CHECK.due("the most", x.road(99, 99, 2), 198);
        int[][] wrong = {{-1, 0, 0}, {100, 0, 0}, {0, -1, 0}, {0, 100, 0}, {0, 0, -1}, {0, 0, 3}};
        for (int[] w : wrong) {
            CHECK.illegal("road", () -> x.road(w[0], w[1], w[2]));
        }
    }

    private static void clovers() {
        MarchHares x = Check.of("form 0 0;hare 0 1;hare 0 1;hare 0 1;hare 0 1;"
                + "debt 3 0 4;debt 3 1 10;debt 0 2 20;debt 1 2 5;");
        int[][] due = {{12, 4, 4, 4}, {13, 4, 4, 4}, {14, 4, 5, 5}, {24, 4, 10, 10}, {25, 4, 10, 11}, {2, 0, 0, 0},
            {3, 1, 1, 1}, {38, 4, 10, 24}, {39, 4, 10, 25}, {999, 4, 10, 25}, {0, 0, 0, 0}};
        for (int[] row : due) {
            for (int hare = 0; hare < 3; hare++) {
                CHECK.due("clover of " + row[0] + " for " + hare, x.clover(hare, 15, row[0]), row[hare + 1]);
            }
            CHECK.due("owed nothing", x.clover(3, 15, row[0]), 0);
        }
        CHECK.due("some alone", x.clover(2, 6, 25), 15);
        CHECK.due("none of them", x.clover(0, 6, 25), 0);
        CHECK.due("no hares told", x.clover(0, 0, 25), 0);
        CHECK.illegal("bits of no hare", () -> x.clover(0, 16, 25));
        CHECK.illegal("bits of no hare", () -> x.clover(0, -1, 25));
        CHECK.illegal("n -1", () -> x.clover(0, 15, -1));
        CHECK.illegal("n 1000", () -> x.clover(0, 15, 1000));
        CHECK.noSuch("no such hare ahead of that", () -> x.clover(4, 99, 1000));
        CHECK.noSuch("no such hare ahead of that", () -> x.clover(-1, 15, 1));
    }

    private static void smallOnes() {
        MarchHares x = Check.of("form 0 0;form 1 0;form 9 0;form 0 9;hare 0 4;hare 0 7;hare 1 7;fox 0 0;"
                + "debt 0 1 3;debt 2 1 1;debt 0 2 0;");
        CHECK.due("the strongest", x.strongest(0), 1);
        CHECK.due("how strong", x.strongest(1), 7);
        CHECK.due("to whom it owes", x.ties(0, 0), 2);
        CHECK.due("who owe it", x.ties(1, 1), 5);
        CHECK.due("nobody", x.ties(1, 0), 0);
        CHECK.due("refuge of 0: form 2, of alike ones the first", x.refuge(0, 0), 2);
        CHECK.due("how far", x.refuge(0, 1), 9);
        CHECK.due("refuge of 3 itself", x.refuge(3, 0), 3);
        CHECK.due("how far", x.refuge(3, 1), 0);
        Check.work(x, "box 0 1;again 30[day;];box 0 1;day;");
        CHECK.due("two caught", x.told(5), 3);
        CHECK.due("the strongest of the others", x.strongest(0), 2);
        Check.law(x, "1");
        Check.work(x, "again 30[day;];leap 2 0;day;");
        CHECK.due("all caught", x.told(5), 7);
        CHECK.due("nobody is strongest", x.strongest(0), -1);
        CHECK.due("nobody is strongest", x.strongest(1), -1);
        CHECK.due("no ties", x.ties(1, 1), 0);
        for (int what : new int[] {-1, 2}) {
            CHECK.illegal("strongest", () -> x.strongest(what));
            CHECK.illegal("ties", () -> x.ties(0, what));
            CHECK.illegal("refuge", () -> x.refuge(0, what));
            CHECK.noSuch("ties", () -> x.ties(3, what));
            CHECK.noSuch("refuge", () -> x.refuge(-1, what));
        }
        MarchHares none = Check.of("form 0 0;fox 1 1;");
        CHECK.due("no refuge", none.refuge(0, 0), -1);
        CHECK.due("no refuge", none.refuge(0, 1), -1);
    }

    private static void marches() {
        MarchHares empty = new MarchHares();
        CHECK.due("no leaps", empty.march(1, 96, 0), 0);
        CHECK.due("days go by", empty.march(1, 96, 3), 4);
        CHECK.due("days go by", empty.march(1, 31, 3), 1);
        CHECK.due("days go by", empty.march(1, 1, 3), 2);
        // Seed 1: 16838, 5758, 10113 are drawn, then 17515, 31051, 5627: of two hares and two forms 0 to 0, boxing 1;
        // then 1 to 1, boxing 1.
        MarchHares x = Check.of("form 0 0;form 0 3;hare 0 4;hare 0 5;");
        CHECK.due("no leap on the first day", x.march(1, 1, 0), 0);
        CHECK.due("hare 0 boxed 1 and lost", x.march(1, 1, 2), 3 + 5);
        CHECK.due("a leap on the second", x.march(1, 2, 0), 1);
        CHECK.due("no box then", x.march(1, 2, 2), 3 + 5);
        CHECK.due("day 3", x.march(1, 2, 3), 3);
        CHECK.due("nobody is caught without foxes", x.march(1, 96, 1), 0);
        CHECK.due("nothing stays changed", x.hare(0, 1) * 100 + x.told(6) * 10 + x.told(3), 401);
        CHECK.due("the fewest", x.span(1, 1, 2, 0, 0), 1);
        CHECK.due("by how many", x.span(1, 20, 96, 2, 1), 20);
        int fewest = 1000;
        int most = 0;
        for (int seed = -5; seed < 15; seed++) {
            fewest = Math.min(fewest, x.march(seed, 40, 0));
            most = Math.max(most, x.march(seed, 40, 0));
        }
        CHECK.due("the fewest of twenty", x.span(-5, 20, 40, 0, 0), fewest);
        CHECK.due("the most of twenty", x.span(-5, 20, 40, 1, 1), most);
        CHECK.due("seeds wrap", x.span(Integer.MAX_VALUE, 2, 9, 1, 0),
                Math.max(x.march(Integer.MAX_VALUE, 9, 0), x.march(Integer.MIN_VALUE, 9, 0)));
        CHECK.due("the seeds differ", fewest < most ? 1 : 0, 1);
    }

    private static void marchRefusals() {
        MarchHares x = Check.of("form 0 0;hare 0 4;");
        int[][] march = {{0, 0}, {97, 0}, {1, -1}, {1, 4}, {-1, 0}};
        for (int[] w : march) {
            CHECK.illegal("march", () -> x.march(1, w[0], w[1]));
        }
        int[][] span = {{0, 1, 0, 0}, {21, 1, 0, 0}, {1, 0, 0, 0}, {1, 97, 0, 0}, {1, 1, -1, 0}, {1, 1, 3, 0},
            {1, 1, 0, 1}, {1, 1, 1, -1}, {1, 1, 2, 1}};
        for (int[] w : span) {
            CHECK.illegal("span", () -> x.span(1, w[0], w[1], w[2], w[3]));
        }
        CHECK.illegal("span without hares", () -> new MarchHares().span(1, 1, 1, 0, 0));
        CHECK.due("counted", x.status(1), 14);
        CHECK.due("counted", x.status(0), 0);
        MarchHares caught = Check.of("form 0 0;form 0 1;hare 0 4;fox 0 0;");
        int free = 0;
        for (int seed = 1; seed <= 20; seed++) {
            free += caught.march(seed, 31, 1) == 0 ? 1 : 0;
        }
        CHECK.due("by how many it is not caught", caught.span(1, 20, 31, 2, 0), free);
        CHECK.due("by some it is, by some it is not", free > 0 && free < 20 ? 1 : 0, 1);
    }

    public static void main(String[] args) {
        wouldLeap();
        leapByLaw();
        aheadOf();
        hopping();
        seating();
        ringing();
        boutsOfAll();
        fitting();
        watching();
        fewSeen();
        roads();
        clovers();
        smallOnes();
        marches();
        marchRefusals();
        CHECK.end();
    }
}
