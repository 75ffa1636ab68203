/** Promises 8 to 14: pot, put, take, potOf, firedIn, wouldCrack and ranked. */
public final class PotsTest {
    private static final int BAD = KilnKeeper.BAD;
    private static final int REFUSED = KilnKeeper.REFUSED;
    private static final int NOTHING = KilnKeeper.NOTHING;
    private static final int NONE = KilnKeeper.NONE;

    private final Due due = new Due();

    private static KilnKeeper withPots(int pots) {
        KilnKeeper x = new KilnKeeper();
        for (int pot = 0; pot < pots; pot++) {
            x.pot(60, 100 + 100 * pot, 1);
        }
        return x;
    }

    /** A kiln as warm as this becomes by so much fuel, at most 60 degrees or a little more. */
    private static void warm(KilnKeeper x, int fuel) {
        x.fuel(fuel);
        x.aim(1200);
        x.go(3);
        x.aim(20);
    }

    private void promise8Pot() {
        KilnKeeper x = new KilnKeeper();
        int[][] bad = {{0, 100, 1}, {61, 100, 1}, {1, 99, 1}, {1, 1201, 1}, {1, 100, 0}, {1, 100, 100},
            {-5, 100, 1}, {1, -100, 1}, {1, 100, -1}};
        for (int[] pot : bad) {
            due.is("8: BAD", x.pot(pot[0], pot[1], pot[2]), BAD);
        }
        due.is("8: no pots", x.account(10), 0);
        due.is("8: the least", x.pot(1, 100, 1), 0);
        due.is("8: the most", x.pot(60, 1200, 99), 1);
        for (int pot = 2; pot < 8; pot++) {
            due.is("8: pot " + pot, x.pot(30, 500, 50), pot);
        }
        due.is("8: BAD ahead of REFUSED", x.pot(0, 500, 50), BAD);
        due.is("8: no reason yet", x.reason(false), NOTHING);
        due.is("8: a ninth", x.pot(30, 500, 50), REFUSED);
        due.is("8: reason", Due.reason(x), 108);
        due.is("8: pots", x.account(10), 8);
        due.is("8: they wait", x.account(11), 8);
    }

    /** A pot that comes in the place of one that is gone has nothing of that one. */
    private void promise8PotInTheSamePlace() {
        for (int shock = 5; shock <= 60; shock += 55) {
            KilnKeeper x = new KilnKeeper();
            x.fuel(400);
            x.aim(120);
            x.save();
            x.pot(shock, 100, 99);
            x.put(0);
            x.go(20);
            due.is("8: how it was", x.potOf(0, 3), shock == 5 ? 3 : 1);
            x.restore();
            due.is("8: none behind restore()", x.account(10), 0);
            isNewPot(x);
            x.undo();
            Due.run(x, shock == 5 ? "pot 5 100 99;put 0;go 20" : "pot 60 100 99;put 0;go 20");
            due.is("8: how it was behind run()", x.potOf(0, 3), shock == 5 ? 3 : 1);
            x.undo();
            due.is("8: none behind undo()", x.account(10), 0);
            isNewPot(x);
        }
    }

    private void isNewPot(KilnKeeper x) {
        due.is("8: another one", x.pot(50, 200, 3), 0);
        int[] all = {50, 200, 3, 0, 0, 0, 0};
        for (int what = 0; what < all.length; what++) {
            due.is("8: its number " + what, x.potOf(0, what), all[what]);
        }
    }

    private void promise9Put() {
        KilnKeeper x = withPots(6);
        due.is("9: put(-1)", x.put(-1), NONE);
        due.is("9: put(6)", x.put(6), NONE);
        due.is("9: put(most)", x.put(Integer.MAX_VALUE), NONE);
        due.is("9: put(5)", x.put(5), 1);
        due.is("9: put(5) again", x.put(5), REFUSED);
        due.is("9: reason", Due.reason(x), 201);
        due.is("9: put(0)", x.put(0), 2);
        due.is("9: put(1)", x.put(1), 3);
        due.is("9: put(2)", x.put(2), 4);
        due.is("9: put(3)", x.put(3), REFUSED);
        due.is("9: reason", Due.reason(x), 104);
        due.is("9: put(2) again, though 4 are within", x.put(2), REFUSED);
        due.is("9: reason", Due.reason(x), 201);
        due.is("9: those within", x.account(15), 4);
        warm(x, 84);
        due.is("9: degrees", x.account(1), 61);
        due.is("9: put(3) while 4 are within and it is hot", x.put(3), REFUSED);
        due.is("9: reason", Due.reason(x), 461);
        due.is("9: put(2) again while it is hot", x.put(2), REFUSED);
        due.is("9: reason", Due.reason(x), 201);
    }

    private void promise9PutIntoAWarmKiln() {
        KilnKeeper x = withPots(1);
        warm(x, 82);
        due.is("9: degrees", x.account(1), 60);
        due.is("9: put(0) at 60 degrees", x.put(0), 1);
        KilnKeeper y = withPots(1);
        warm(y, 84);
        due.is("9: put(0) at 61 degrees", y.put(0), REFUSED);
        due.is("9: reason", Due.reason(y), 461);
        due.is("9: it waits", y.potOf(0, 3), 0);
    }

    /** The pot 0 is fired, 1 is cracked, both within a kiln that became cold, and 2 waits. */
    private static KilnKeeper firedAndCracked() {
        KilnKeeper x = new KilnKeeper();
        x.pot(60, 100, 2);
        x.pot(5, 100, 2);
        x.pot(60, 1000, 2);
        x.put(0);
        x.put(1);
        x.fuel(400);
        x.aim(120);
        x.go(20);
        x.aim(20);
        x.go(100);
        return x;
    }

    private void promise10Take() {
        KilnKeeper x = firedAndCracked();
        due.is("10: take(-1)", x.take(-1), NONE);
        due.is("10: take(3)", x.take(3), NONE);
        due.is("10: take(2)", x.take(2), REFUSED);
        due.is("10: reason", Due.reason(x), 300);
        due.is("10: fired and cracked ones do not wait", x.put(0), REFUSED);
        due.is("10: reason", Due.reason(x), 202);
        due.is("10: those within", x.account(15), 2);
        due.is("10: take(0)", x.take(0), 2);
        due.is("10: take(1)", x.take(1), 3);
        due.is("10: none within", x.account(15), 0);
        due.is("10: take(0) again", x.take(0), REFUSED);
        due.is("10: reason", Due.reason(x), 302);
        due.is("10: take(1) again", x.take(1), REFUSED);
        due.is("10: reason", Due.reason(x), 303);
        due.is("10: put(1)", x.put(1), REFUSED);
        due.is("10: reason", Due.reason(x), 203);
        due.is("10: it stays fired", x.potOf(0, 3), 2);
    }

    private void promise10TakeOutOfAHotKiln() {
        KilnKeeper x = withPots(2);
        x.put(0);
        warm(x, 84);
        due.is("10: take(0) at 61 degrees", x.take(0), REFUSED);
        due.is("10: reason", Due.reason(x), 461);
        due.is("10: take(1) at 61 degrees", x.take(1), REFUSED);
        due.is("10: reason", Due.reason(x), 300);
        due.is("10: a minute later", x.go(1), 60);
        due.is("10: take(0) then", x.take(0), 0);
        KilnKeeper y = withPots(1);
        y.put(0);
        warm(y, 82);
        due.is("10: take(0) at 60 degrees", y.take(0), 0);
    }

    private void promise10KeepsItsMinutes() {
        KilnKeeper x = new KilnKeeper();
        x.pot(60, 100, 30);
        x.put(0);
        x.fuel(300);
        x.aim(150);
        x.go(100);
        int soaked = x.potOf(0, 4);
        int most = x.potOf(0, 6);
        due.is("10: it soaked", soaked, 18);
        due.is("10: it became hotter by", most, 33);
        due.is("10: take(0)", x.take(0), 0);
        due.is("10: it keeps them", x.potOf(0, 4), soaked);
        due.is("10: and what it bore", x.potOf(0, 6), most);
        x.go(1);
        due.is("10: put(0)", x.put(0), 1);
        due.is("10: it still keeps them", x.potOf(0, 4), soaked);
        due.is("10: its shock", x.potOf(0, 0), 60);
        x.fuel(300);
        x.go(100);
        due.is("10: it goes on from there", x.potOf(0, 4) > soaked ? 1 : 0, 1);
    }

    private void promise11PotOf() {
        KilnKeeper x = firedAndCracked();
        int[][] all = {{60, 100, 2, 2, 2, 1, 29}, {5, 100, 2, 3, 0, 1, 10}, {60, 1000, 2, 0, 0, 0, 0}};
        for (int pot = 0; pot < all.length; pot++) {
            for (int what = 0; what < 7; what++) {
                due.is("11: potOf(" + pot + ", " + what + ")", x.potOf(pot, what), all[pot][what]);
            }
        }
        due.is("11: potOf(0, 7)", x.potOf(0, 7), BAD);
        due.is("11: potOf(0, -1)", x.potOf(0, -1), BAD);
        due.is("11: potOf(3, 0)", x.potOf(3, 0), NONE);
        due.is("11: potOf(-1, 0)", x.potOf(-1, 0), NONE);
        due.is("11: NONE ahead of BAD", x.potOf(3, 7), NONE);
        x.take(0);
        due.is("11: taken out", x.potOf(0, 5), 0);
        due.is("11: still fired", x.potOf(0, 3), 2);
    }

    private void promise11Colder() {
        KilnKeeper x = withPots(2);
        warm(x, 82);
        x.put(0);
        x.go(1);
        due.is("11: colder by", x.potOf(0, 6), 1);
        due.is("11: outside nothing counts", x.potOf(1, 6), 0);
    }

    /** What the document tells of shock: a jump of just as much is borne, more is not, hotter or colder. */
    private void potsCrackByShock() {
        KilnKeeper x = new KilnKeeper();
        x.pot(10, 100, 1);
        x.pot(9, 100, 1);
        x.put(0);
        x.put(1);
        x.fuel(20);
        x.aim(1200);
        x.go(1);
        due.is("shock: 10 of 10", x.potOf(0, 3), 1);
        due.is("shock: 10 of 9", x.potOf(1, 3), 3);
        KilnKeeper y = new KilnKeeper();
        y.pot(4, 1000, 9);
        y.pot(7, 1000, 9);
        y.put(0);
        y.put(1);
        y.fuel(9999);
        y.gains(0, 10, 0);
        y.cap(80);
        y.aim(1200);
        y.go(60);
        y.cap(140);
        y.go(100);
        due.is("shock: slowly", y.account(1), 195);
        due.is("shock: both bear that", y.account(12), 2);
        y.gains(0, 0, 0);
        y.go(1);
        due.is("shock: colder by 7", y.account(1), 188);
        due.is("shock: cracked by cold", y.potOf(0, 3), 3);
        due.is("shock: 7 of 7", y.potOf(1, 3), 1);
        due.is("shock: by how much", y.potOf(0, 6), 7);
    }

    private void potsCrackByHeat() {
        for (int fuel = 342; fuel <= 344; fuel += 2) {
            KilnKeeper x = new KilnKeeper();
            x.fuel(fuel);
            x.gains(50, 0, 0);
            x.aim(1200);
            x.pot(60, 100, 99);
            x.put(0);
            x.go(20);
            due.is("heat: " + fuel, x.potOf(0, 3), fuel == 342 ? 1 : 3);
        }
    }

    /** A pot is fired by the last minute that it soaks, and bears all that comes then. */
    private void potsAreFired() {
        KilnKeeper x = new KilnKeeper();
        x.pot(60, 117, 1);
        x.pot(60, 118, 1);
        x.pot(40, 100, 3);
        x.put(0);
        x.put(1);
        x.put(2);
        x.fuel(9999);
        x.gains(50, 0, 0);
        x.aim(1200);
        due.is("fired: go(4)", x.go(4), 117);
        due.is("fired: at the degrees", x.potOf(0, 3), 2);
        due.is("fired: a degree below", x.potOf(1, 3), 1);
        due.is("fired: no minute soaked", x.potOf(1, 4), 0);
        due.is("fired: one of three minutes", x.potOf(2, 4), 1);
        due.is("fired: go(1)", x.go(1), 164);
        due.is("fired: cracks instead", x.potOf(2, 3), 3);
        due.is("fired: soaks not in that minute", x.potOf(2, 4), 1);
        x.go(10);
        due.is("fired: too much heat later", x.potOf(0, 3), 2);
        due.is("fired: what comes later does not count", x.potOf(0, 6), 38);
    }

    private static KilnKeeper slow(int minutes) {
        KilnKeeper x = new KilnKeeper();
        x.gains(0, 1, 0);
        x.cap(2280);
        x.aim(108);
        x.fuel(9999);
        x.pot(60, 118, minutes);
        x.pot(60, 118, 1);
        x.put(0);
        return x;
    }

    private void promise12FiredIn() {
        KilnKeeper x = slow(92);
        due.is("12: firedIn(-1)", x.firedIn(-1), NONE);
        due.is("12: firedIn(2)", x.firedIn(2), NONE);
        due.is("12: firedIn(0)", x.firedIn(0), 300);
        due.is("12: one that waits", x.firedIn(1), NOTHING);
        due.is("12: no minute went by", x.account(0), 0);
        x.go(1);
        due.is("12: a minute later", x.firedIn(0), 299);
        x.go(298);
        due.is("12: the last minute", x.firedIn(0), 1);
        x.go(1);
        due.is("12: fired now", x.firedIn(0), 0);
        due.is("12: is fired", x.potOf(0, 3), 2);
        x.go(300);
        due.is("12: fired long ago", x.firedIn(0), 0);
        KilnKeeper y = slow(93);
        due.is("12: one minute too late", y.firedIn(0), NOTHING);
        y.go(1);
        due.is("12: just in time", y.firedIn(0), 300);
        due.is("12: cracked", firedAndCracked().firedIn(1), NOTHING);
    }

    private void promise13WouldCrack() {
        KilnKeeper x = new KilnKeeper();
        x.pot(60, 1000, 1);
        x.pot(10, 1000, 1);
        x.pot(5, 1000, 1);
        x.pot(60, 100, 99);
        x.pot(1, 100, 1);
        x.put(0);
        x.put(1);
        x.put(2);
        x.put(3);
        x.fuel(9999);
        x.aim(1200);
        due.is("13: wouldCrack(-1)", x.wouldCrack(-1), BAD);
        due.is("13: wouldCrack(301)", x.wouldCrack(301), BAD);
        due.is("13: wouldCrack(0)", x.wouldCrack(0), 0);
        due.is("13: wouldCrack(1)", x.wouldCrack(1), 4);
        due.is("13: wouldCrack(2)", x.wouldCrack(2), 6);
        due.is("13: wouldCrack(300)", x.wouldCrack(300), 14);
        due.is("13: nothing cracked by that", x.account(14), 0);
        x.go(1);
        due.is("13: one is cracked now", x.account(14), 1);
        due.is("13: it is left out", x.wouldCrack(1), 2);
        due.is("13: and here", x.wouldCrack(300), 10);
        KilnKeeper y = new KilnKeeper();
        for (int pot = 0; pot < 8; pot++) {
            y.pot(pot % 7 == 0 ? 9 : 60, 1200, 1);
        }
        y.put(7);
        y.put(0);
        y.fuel(9999);
        y.aim(1200);
        due.is("13: the first and the last pot", y.wouldCrack(1), 129);
    }

    private void promise14Ranked() {
        KilnKeeper x = new KilnKeeper();
        due.is("14: none", x.ranked(0), NONE);
        x.pot(60, 500, 9);
        x.pot(60, 500, 8);
        x.pot(60, 600, 9);
        x.pot(60, 500, 9);
        x.pot(60, 100, 3);
        int[] order = {4, 1, 2, 0, 3};
        for (int place = 0; place < order.length; place++) {
            due.is("14: ranked(" + place + ")", x.ranked(place), order[place]);
        }
        due.is("14: ranked(5)", x.ranked(5), NONE);
        due.is("14: ranked(-1)", x.ranked(-1), NONE);
        due.is("14: ranked(least)", x.ranked(Integer.MIN_VALUE), NONE);
    }

    private void promise14RankedBySoaking() {
        KilnKeeper x = firedAndCracked();
        x.pot(60, 100, 1);
        int[] order = {0, 3, 2, 1};
        for (int place = 0; place < order.length; place++) {
            due.is("14: behind the fire, ranked(" + place + ")", x.ranked(place), order[place]);
        }
        KilnKeeper y = new KilnKeeper();
        y.pot(60, 100, 5);
        y.pot(60, 117, 6);
        y.put(1);
        y.fuel(9999);
        y.gains(50, 0, 0);
        y.aim(1200);
        due.is("14: ranked(0) ahead", y.ranked(0), 0);
        y.go(4);
        due.is("14: as many, but hotter", y.ranked(0), 1);
        due.is("14: the other", y.ranked(1), 0);
    }

    public static void main(String[] args) {
        PotsTest test = new PotsTest();
        test.promise8Pot();
        test.promise8PotInTheSamePlace();
        test.promise9Put();
        test.promise9PutIntoAWarmKiln();
        test.promise10Take();
        test.promise10TakeOutOfAHotKiln();
        test.promise10KeepsItsMinutes();
        test.promise11PotOf();
        test.promise11Colder();
        test.potsCrackByShock();
        test.potsCrackByHeat();
        test.potsAreFired();
        test.promise12FiredIn();
        test.promise13WouldCrack();
        test.promise14Ranked();
        test.promise14RankedBySoaking();
        test.due.end();
    }
}
