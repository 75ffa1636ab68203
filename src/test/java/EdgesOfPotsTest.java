/** Promises 8 to 14, sentence by sentence. */
public final class EdgesOfPotsTest {
    private static final int NONE = KilnKeeper.NONE;
    private static final int BAD = KilnKeeper.BAD;
    private static final int REFUSED = KilnKeeper.REFUSED;
    private static final int NOTHING = KilnKeeper.NOTHING;

    private final Sentences the;

    private EdgesOfPotsTest(Sentences the) {
        this.the = the;
    }

    private void pot() {
        the.part("## Promise 8: pot");
        the.says("Lets a pot come.");
        KilnKeeper x = new KilnKeeper();
        x.pot(7, 800, 9);
        int[] all = {7, 800, 9, 0, 0, 0, 0};
        for (int what = 0; what < all.length; what++) {
            the.is("potOf(0, " + what + ")", x.potOf(0, what), all[what]);
        }
        String[] runs = {"pot 5 100 9;put 0;go 9", "pot 60 100 2;put 0;go 9", "pot 60 1000 2;put 0;go 9"};
        for (int run = 0; run < runs.length; run++) {
            KilnKeeper y = Kilns.heating(120, 400);
            Due.run(y, runs[run]);
            the.is("potOf(0, 3) behind " + runs[run], y.potOf(0, 3), new int[] {3, 2, 1}[run]);
            y.undo();
            y.pot(7, 800, 9);
            for (int what = 0; what < all.length; what++) {
                the.is("potOf(0, " + what + ") of another one in its place", y.potOf(0, what), all[what]);
            }
        }
        the.says("Returns its number");
        for (int pot = 1; pot < 8; pot++) {
            the.is("pot(1, 100, 1)", x.pot(1, 100, 1), pot);
        }
        KilnKeeper y = new KilnKeeper();
        y.pot(1, 100, 1);
        y.undo();
        the.is("pot(60, 1200, 99) behind undo()", y.pot(60, 1200, 99), 0);
        the.says("BAD if a number is out of range");
        the.isOutside("shock", shock -> y.pot(shock, 100, 1), 1, 60, BAD);
        the.isOutside("degrees", degrees -> y.pot(1, degrees, 1), 100, 1200, BAD);
        the.isOutside("minutes", minutes -> y.pot(1, 100, minutes), 1, 99, BAD);
        the.isOutside("the shock of a ninth", shock -> x.pot(shock, 100, 1), 1, 60, BAD);
        the.is("reason(false)", x.reason(false), NOTHING);
        the.is("account(10)", y.account(10), 1);
        the.says("REFUSED for the reason 1.");
        the.is("a ninth", x.pot(1, 100, 1), REFUSED);
        the.is("its reason", Due.reason(x), 108);
        the.is("account(10)", x.account(10), 8);
        x.undo();
        the.is("an eighth behind undo()", x.pot(1, 100, 1), 7);
    }

    private void put() {
        the.part("## Promise 9: put");
        the.says("Puts a pot into the kiln.");
        KilnKeeper x = Kilns.withPots(8);
        x.put(7);
        the.is("potOf(7, 3)", x.potOf(7, 3), 1);
        the.is("potOf(7, 5)", x.potOf(7, 5), 1);
        the.is("potOf(6, 5)", x.potOf(6, 5), 0);
        the.says("Returns how many pots are within then");
        the.is("put(0)", x.put(0), 2);
        the.is("put(5)", x.put(5), 3);
        the.is("put(3)", x.put(3), 4);
        x.take(0);
        x.take(7);
        the.is("put(1) behind two that were taken", x.put(1), 3);
        the.says("NONE if there is no such pot");
        the.isOutside("put", x::put, 0, 7, NONE);
        KilnKeeper none = new KilnKeeper();
        the.is("put(0) without pots", none.put(0), NONE);
        the.is("account(17)", none.account(17), 0);
        the.says("REFUSED for the reason 2, 4 or 1.");
        KilnKeeper y = Kilns.firedAndCracked();
        the.is("put(0), fired", y.put(0), REFUSED);
        the.is("its reason", Due.reason(y), 202);
        the.is("put(1), cracked", y.put(1), REFUSED);
        the.is("its reason", Due.reason(y), 203);
        y.put(2);
        y.put(3);
        the.is("put(2), in the kiln, while 4 are within", y.put(2), REFUSED);
        the.is("its reason", Due.reason(y), 201);
        the.is("put(4) while 4 are within", y.put(4), REFUSED);
        the.is("its reason", Due.reason(y), 104);
        the.is("account(15)", y.account(15), 4);
        y.fuel(100);
        y.aim(1200);
        the.is("go(2)", y.go(2), 73);
        the.is("put(4) at 73 degrees, while 4 are within", y.put(4), REFUSED);
        the.is("its reason", Due.reason(y), 473);
        the.is("put(2), in the kiln, at 73 degrees", y.put(2), REFUSED);
        the.is("its reason", Due.reason(y), 201);
    }

    private void take() {
        the.part("## Promise 10: take");
        the.says("Takes a pot out of the kiln");
        KilnKeeper x = Kilns.firedAndCracked();
        x.put(2);
        for (int pot = 0; pot < 3; pot++) {
            the.is("potOf(" + pot + ", 5)", x.potOf(pot, 5), 1);
            x.take(pot);
            the.is("potOf(" + pot + ", 5) behind take()", x.potOf(pot, 5), 0);
        }
        the.is("account(15)", x.account(15), 0);
        the.says("one that is neither fired nor cracked waits again, and keeps the minutes that it soaked.");
        KilnKeeper y = Kilns.heating(150, 300);
        y.pot(60, 100, 19);
        y.put(0);
        y.go(100);
        the.is("potOf(0, 4)", y.potOf(0, 4), 18);
        y.take(0);
        the.is("potOf(0, 3)", y.potOf(0, 3), 0);
        the.is("potOf(0, 4)", y.potOf(0, 4), 18);
        the.is("potOf(0, 3), fired", x.potOf(0, 3), 2);
        the.is("potOf(0, 4), fired", x.potOf(0, 4), 2);
        the.is("potOf(1, 3), cracked", x.potOf(1, 3), 3);
        the.says("Returns how it is then");
        KilnKeeper z = Kilns.firedAndCracked();
        z.put(2);
        the.is("take(0), fired", z.take(0), 2);
        the.is("take(1), cracked", z.take(1), 3);
        the.is("take(2), in the kiln", z.take(2), 0);
        the.says("NONE if there is no such pot");
        the.isOutside("take", z::take, 0, 5, NONE);
        the.is("take(0) without pots", new KilnKeeper().take(0), NONE);
        the.says("REFUSED for the reason 3 or 4.");
        int[] states = {302, 303, 300};
        for (int pot = 0; pot < 3; pot++) {
            the.is("take(" + pot + ") again", z.take(pot), REFUSED);
            the.is("its reason", Due.reason(z), states[pot]);
        }
        KilnKeeper hot = Kilns.withPots(2);
        hot.put(0);
        Kilns.heatBy(hot, 84);
        the.is("take(0) at 61 degrees", hot.take(0), REFUSED);
        the.is("its reason", Due.reason(hot), 461);
        the.is("take(1), not within, at 61 degrees", hot.take(1), REFUSED);
        the.is("its reason", Due.reason(hot), 300);
        hot.go(1);
        the.is("take(0) at 60 degrees", hot.take(0), 0);
    }

    private void potOf() {
        the.part("## Promise 11: potOf");
        the.says("Returns a number of a pot.");
        the.says("0 for its shock, 1 for the degrees that it needs, 2 for the minutes, 3 for how it is,"
                + " 4 for the minutes that it soaked so far, 5 for 1 if it is within the kiln, and 0 otherwise");
        KilnKeeper x = Kilns.firedAndCracked();
        int[][] all = {{60, 100, 2, 2, 2, 1}, {5, 100, 2, 3, 0, 1}, {60, 1000, 2, 0, 0, 0}};
        for (int pot = 0; pot < all.length; pot++) {
            for (int what = 0; what < 6; what++) {
                the.is("potOf(" + pot + ", " + what + ")", x.potOf(pot, what), all[pot][what]);
            }
        }
        x.take(0);
        x.take(1);
        x.put(2);
        the.is("potOf(0, 5) behind take(0)", x.potOf(0, 5), 0);
        the.is("potOf(1, 5) behind take(1)", x.potOf(1, 5), 0);
        the.is("potOf(2, 5) behind put(2)", x.potOf(2, 5), 1);
        the.says("Returns the number");
        the.is("potOf(5, 1)", x.potOf(5, 1), 1000);
        the.says("NONE if there is no such pot");
        the.isOutside("potOf", pot -> x.potOf(pot, 0), 0, 5, NONE);
        the.is("potOf(0, 0) without pots", new KilnKeeper().potOf(0, 0), NONE);
        the.is("potOf(6, 7)", x.potOf(6, 7), NONE);
        the.says("BAD if what is not from 0 to 6.");
        the.isOutside("potOf", what -> x.potOf(0, what), 0, 6, BAD);
    }

    private void mostDegrees() {
        the.says("6 for the most degrees by which the kiln became hotter or colder in a minute"
                + " while it was in the kiln, 0 without any");
        KilnKeeper x = Kilns.withPots(2);
        the.is("potOf(0, 6) of a pot that waits", x.potOf(0, 6), 0);
        x.put(0);
        the.is("potOf(0, 6) without a minute", x.potOf(0, 6), 0);
        x.go(1);
        the.is("potOf(0, 6) of a cold kiln", x.potOf(0, 6), 0);
        Kilns.heatBy(x, 84);
        the.is("potOf(0, 6) of 10, 20 and 11", x.potOf(0, 6), 20);
        the.is("potOf(1, 6) while it waits", x.potOf(1, 6), 0);
        KilnKeeper y = Kilns.withPots(1);
        Kilns.heatBy(y, 50);
        y.put(0);
        the.is("go(1)", y.go(1), 44);
        the.is("potOf(0, 6), colder by 1", y.potOf(0, 6), 1);
        y.take(0);
        y.fuel(10);
        y.aim(1200);
        y.go(1);
        the.is("potOf(0, 6), taken out", y.potOf(0, 6), 1);
        KilnKeeper z = Kilns.heating(1200, 9999);
        z.pot(5, 1000, 1);
        z.pot(60, 117, 1);
        z.put(0);
        z.put(1);
        z.go(4);
        the.is("potOf(0, 6), cracked by the first minute", z.potOf(0, 6), 10);
        the.is("potOf(1, 6), fired by the fourth", z.potOf(1, 6), 38);
        the.is("go(1)", z.go(1), 164);
        the.is("potOf(0, 6), cracked", z.potOf(0, 6), 10);
        the.is("potOf(1, 6), fired", z.potOf(1, 6), 38);
    }

    private static KilnKeeper slow(int minutes) {
        KilnKeeper x = new KilnKeeper();
        x.gains(0, 1, 0);
        x.cap(2280);
        x.aim(108);
        x.fuel(9999);
        x.pot(60, 118, minutes);
        x.pot(60, 118, 1);
        x.put(0);
        return x;
    }

    private void firedIn() {
        the.part("## Promise 12: firedIn");
        the.says("Returns in how many minutes a pot is fired, if only minutes go by.");
        KilnKeeper x = Kilns.heating(1200, 200);
        x.pot(60, 117, 1);
        x.put(0);
        String before = Kilns.all(x);
        the.is("firedIn(0)", x.firedIn(0), 4);
        the.isText("all behind it", Kilns.all(x), before);
        x.go(3);
        the.is("firedIn(0)", x.firedIn(0), 1);
        the.says("Returns how many, 0 to 300");
        x.go(1);
        the.is("firedIn(0), fired now", x.firedIn(0), 0);
        x.go(300);
        the.is("firedIn(0), fired long ago", x.firedIn(0), 0);
        the.is("firedIn(0), the latest", slow(92).firedIn(0), 300);
        the.says("NONE if there is no such pot");
        the.isOutside("firedIn", x::firedIn, 0, 0, NONE);
        the.is("firedIn(0) without pots", new KilnKeeper().firedIn(0), NONE);
        the.says("NOTHING if it is not by then.");
        KilnKeeper late = slow(93);
        the.is("firedIn(0) in 301", late.firedIn(0), NOTHING);
        late.go(1);
        the.is("firedIn(0) a minute later", late.firedIn(0), 300);
        the.is("firedIn(1), which waits", late.firedIn(1), NOTHING);
        the.is("firedIn(1), cracked", Kilns.firedAndCracked().firedIn(1), NOTHING);
        KilnKeeper cracks = Kilns.heating(1200, 9999);
        cracks.pot(5, 117, 1);
        cracks.put(0);
        the.is("firedIn(0), which cracks ahead of that", cracks.firedIn(0), NOTHING);
    }

    private void wouldCrack() {
        the.part("## Promise 13: wouldCrack");
        the.says("Returns the pots that crack within some minutes, if only these go by.");
        KilnKeeper x = Kilns.heating(1200, 9999);
        int[] shocks = {46, 9, 60, 60, 19, 60, 60, 37};
        for (int pot = 0; pot < 8; pot++) {
            x.pot(shocks[pot], pot == 3 ? 100 : 1200, 99);
        }
        x.put(7);
        x.put(0);
        x.put(1);
        x.put(3);
        String before = Kilns.all(x);
        int[] sets = {0, 2, 2, 2, 130, 131, 139, 139};
        for (int minutes = 0; minutes < sets.length; minutes++) {
            the.is("wouldCrack(" + minutes + ")", x.wouldCrack(minutes), sets[minutes]);
        }
        the.isText("all behind it", Kilns.all(x), before);
        the.says("how many, 0 to 300");
        the.is("wouldCrack(0)", x.wouldCrack(0), 0);
        the.is("wouldCrack(300)", x.wouldCrack(300), 139);
        the.says("Returns their set, bit k for the pot k, those left out that are cracked now");
        x.go(1);
        the.is("wouldCrack(300) behind a minute", x.wouldCrack(300), 137);
        x.go(3);
        the.is("wouldCrack(300) behind 4", x.wouldCrack(300), 9);
        the.is("wouldCrack(1) behind 4", x.wouldCrack(1), 1);
        x.go(2);
        the.is("wouldCrack(300) as all are cracked", x.wouldCrack(300), 0);
        the.is("account(14)", x.account(14), 4);
        the.is("wouldCrack(300) without pots", new KilnKeeper().wouldCrack(300), 0);
        the.says("BAD if the number is out of range.");
        the.isOutside("wouldCrack", x::wouldCrack, 0, 300, BAD);
    }

    private void ranks(KilnKeeper x, int... order) {
        for (int place = 0; place < order.length; place++) {
            the.is("ranked(" + place + ")", x.ranked(place), order[place]);
        }
        the.is("ranked(" + order.length + ")", x.ranked(order.length), NONE);
    }

    private void ranked() {
        the.part("## Promise 14: ranked");
        the.says("Returns a pot by the minutes that it still has to soak: the fewest first");
        KilnKeeper x = new KilnKeeper();
        int[] minutes = {50, 99, 1, 2, 98, 3, 51, 49};
        for (int pot = 0; pot < 8; pot++) {
            x.pot(60, 500, minutes[pot]);
        }
        ranks(x, 2, 3, 5, 7, 0, 6, 4, 1);
        KilnKeeper soaking = Kilns.heating(1200, 9999);
        soaking.pot(60, 1000, 3);
        soaking.pot(60, 117, 4);
        soaking.put(1);
        ranks(soaking, 0, 1);
        soaking.go(4);
        the.is("potOf(1, 4), with 3 left as the other", soaking.potOf(1, 4), 1);
        ranks(soaking, 0, 1);
        soaking.go(1);
        the.is("potOf(1, 4), with 2 left", soaking.potOf(1, 4), 2);
        ranks(soaking, 1, 0);
        the.says("of several the one that needs more degrees");
        KilnKeeper y = new KilnKeeper();
        int[] degrees = {500, 501, 1200, 100};
        for (int needed : degrees) {
            y.pot(60, needed, 9);
        }
        ranks(y, 2, 1, 0, 3);
        the.says("then the lowest");
        KilnKeeper z = new KilnKeeper();
        for (int pot = 0; pot < 8; pot++) {
            z.pot(60 - pot, pot == 4 ? 600 : 500, 9);
        }
        ranks(z, 4, 0, 1, 2, 3, 5, 6, 7);
        the.says("fired ones have none.");
        KilnKeeper fired = Kilns.firedAndCracked();
        ranks(fired, 0, 2, 3, 4, 5, 1);
        fired.pot(60, 1200, 1);
        ranks(fired, 0, 6, 2, 3, 4, 5, 1);
        fired.take(0);
        ranks(fired, 0, 6, 2, 3, 4, 5, 1);
        the.says("the place, from 0");
        the.is("ranked(0)", x.ranked(0), 2);
        the.is("ranked(-1)", x.ranked(-1), NONE);
        the.says("Returns the pot");
        the.is("ranked(7)", x.ranked(7), 1);
        the.says("NONE if there is no such place.");
        the.isOutside("ranked", x::ranked, 0, 7, NONE);
        the.isOutside("ranked", y::ranked, 0, 3, NONE);
        the.is("ranked(0) without pots", new KilnKeeper().ranked(0), NONE);
    }

    public static void main(String[] args) throws Exception {
        Sentences the = new Sentences();
        EdgesOfPotsTest test = new EdgesOfPotsTest(the);
        test.pot();
        test.put();
        test.take();
        test.potOf();
        test.mostDegrees();
        test.firedIn();
        test.wouldCrack();
        test.ranked();
        the.end();
    }
}
