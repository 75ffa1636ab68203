/** Promises 28 to 35, sentence by sentence. */
public final class EdgesOfAccountsTest {
    private static final int NONE = KilnKeeper.NONE;
    private static final int BAD = KilnKeeper.BAD;
    private static final int NOTHING = KilnKeeper.NOTHING;

    private final Sentences the;

    private EdgesOfAccountsTest(Sentences the) {
        this.the = the;
    }

    private void reason() {
        the.part("## Promise 28: reason");
        the.says("Returns the latest reason, or its detail.");
        KilnKeeper x = Kilns.withPots(1);
        x.cap(2000);
        x.take(0);
        the.is("reason(false)", x.reason(false), 3);
        the.is("reason(true)", x.reason(true), 0);
        x.put(0);
        x.put(0);
        the.is("reason(false)", x.reason(false), 2);
        the.is("reason(true)", x.reason(true), 1);
        the.says("Returns the number");
        the.is("reason(false) again", x.reason(false), 2);
        the.is("reason(true) again", x.reason(true), 1);
        the.says("NOTHING if nothing was refused.");
        KilnKeeper y = new KilnKeeper();
        the.is("reason(false) at first", y.reason(false), NOTHING);
        the.is("reason(true) at first", y.reason(true), NOTHING);
        y.put(0);
        y.aim(19);
        y.undo();
        y.restore();
        Due.run(y, "go");
        the.is("reason(false) behind other codes", y.reason(false), NOTHING);
        the.is("reason(true) behind other codes", y.reason(true), NOTHING);
    }

    private void areAccounts(String when, KilnKeeper x, int... all) {
        for (int what = 0; what < all.length; what++) {
            the.is("account(" + what + ") " + when, x.account(what), all[what]);
        }
    }

    private void account() {
        the.part("## Promise 29: account");
        the.says("Returns an account.");
        areAccounts("at first", new KilnKeeper(), 0, 20, 20, 0, 0, 0, 0, 0, 0, 0, 0, 0, 0, 0, 0, 0, 0, 0);
        the.says("0 for the minutes so far, 1 for the degrees, 2 for those at which it aims, 3 for the error now,"
                + " 4 for the sum");
        KilnKeeper x = Kilns.heating(100, 9999);
        x.gains(50, 0, 0);
        x.go(5);
        areAccounts("behind 5 minutes", x, 5, 144, 100, -44, 204);
        the.says("5 for the error of the latest minute, 0 without one");
        the.is("account(5)", x.account(5), -17);
        KilnKeeper none = new KilnKeeper();
        none.aim(1200);
        the.is("account(5) without a minute", none.account(5), 0);
        the.says("6 for the damper, 7 for the fuel, 8 for the fuel that came so far, 9 for by how much it overshoots");
        int[] heat = {60, 9739, 9999, 44};
        for (int what = 6; what <= 9; what++) {
            the.is("account(" + what + ")", x.account(what), heat[what - 6]);
        }
        the.says("10 for the pots, 11 to 14 for those that are 0 to 3, 15 for those within");
        KilnKeeper pots = Kilns.firedAndCracked();
        pots.put(2);
        int[] counts = {6, 3, 1, 1, 1, 3};
        for (int what = 10; what <= 15; what++) {
            the.is("account(" + what + ")", pots.account(what), counts[what - 10]);
        }
        pots.take(0);
        pots.take(1);
        pots.take(2);
        int[] taken = {6, 4, 0, 1, 1, 0};
        for (int what = 10; what <= 15; what++) {
            the.is("account(" + what + ") behind take()", pots.account(what), taken[what - 10]);
        }
        the.says("16 for the characters of the text");
        for (int length = 1; length <= 61; length++) {
            none.append('x');
            the.is("account(16)", none.account(16), Math.min(length, 60));
        }
        none.run();
        the.is("account(16) behind run()", none.account(16), 0);
        the.says("17 for the changes that can be undone");
        KilnKeeper changed = new KilnKeeper();
        for (int change = 1; change <= 9; change++) {
            changed.fuel(1);
            the.is("account(17)", changed.account(17), Math.min(change, 8));
        }
        changed.undo();
        the.is("account(17) behind undo()", changed.account(17), 7);
        the.says("Returns the account");
        the.is("account(8)", changed.account(8), 8);
        the.says("BAD if what is not from 0 to 17.");
        the.isOutside("account", x::account, 0, 17, BAD);
    }

    private void isBalanced() {
        the.part("## Promise 30: isBalanced");
        the.says("Returns whether the fuel that came is the fuel that there is and that burnt, this is the same by"
                + " both ways, the minutes are those with all amounts of fuel, and no pot soaked for more minutes"
                + " than it needs.");
        the.says("Returns 1 if it is so, 0 otherwise.");
        KilnKeeper x = Kilns.firedAndCracked();
        isBalancedNow("behind the fire", x);
        x.fuel(9999);
        isBalancedNow("with fuel", x);
        x.aim(1200);
        x.go(300);
        isBalancedNow("without fuel", x);
        x.undo();
        isBalancedNow("behind undo()", x);
        x.save();
        Due.run(x, "fuel 7;go 9;aim 100;go 0");
        isBalancedNow("behind a run that is refused", x);
        x.go(99);
        x.restore();
        isBalancedNow("behind restore()", x);
        isBalancedNow("at first", new KilnKeeper());
    }

    private void isBalancedNow(String when, KilnKeeper x) {
        the.is("isBalanced() " + when, x.isBalanced(), 1);
        the.is("the fuel " + when, x.account(7) + x.burnt(), x.account(8));
        the.is("burntAgain() " + when, x.burntAgain(), x.burnt());
        int minutes = 0;
        for (int fuel = 0; fuel <= 100; fuel++) {
            minutes += x.minutesWith(fuel);
        }
        the.is("the minutes " + when, minutes, x.account(0));
        for (int pot = 0; pot < x.account(10); pot++) {
            the.is("whether the pot " + pot + " soaked too long", x.potOf(pot, 4) > x.potOf(pot, 2) ? 1 : 0, 0);
        }
    }

    private void shares() {
        the.part("## Promise 31: meanBurnt");
        the.says("Returns the mean fuel burnt in a minute: the fuel burnt so far divided by the minutes,"
                + " both converted to double.");
        KilnKeeper x = Kilns.heating(1200, 100);
        x.go(3);
        the.isExactly("meanBurnt() of 100 in 3", x.meanBurnt(), 100.0 / 3.0);
        the.says("Returns the mean");
        x.go(1);
        the.isExactly("meanBurnt() of 100 in 4", x.meanBurnt(), 25.0);
        x.go(300);
        the.isExactly("meanBurnt() of 100 in 304", x.meanBurnt(), 100.0 / 304.0);
        KilnKeeper idle = new KilnKeeper();
        idle.go(1);
        the.isExactly("meanBurnt() of none in 1", idle.meanBurnt(), 0.0);
        the.says("0.0 without minutes.");
        the.isExactly("meanBurnt() at first", new KilnKeeper().meanBurnt(), 0.0);
        the.isExactly("meanBurnt() with fuel", Kilns.heating(1200, 100).meanBurnt(), 0.0);
        idle.undo();
        the.isExactly("meanBurnt() undone", idle.meanBurnt(), 0.0);
        the.part("## Promise 32: firedShare");
        the.says("Returns the share of the pots that are fired, both numbers converted to float.");
        KilnKeeper y = Kilns.firedAndCracked();
        the.isExactly("firedShare() of 1 in 6", y.firedShare(), 1.0f / 6.0f);
        y.pot(60, 100, 1);
        the.isExactly("firedShare() of 1 in 7", y.firedShare(), 1.0f / 7.0f);
        the.says("Returns the share");
        y.take(0);
        the.isExactly("firedShare() behind take()", y.firedShare(), 1.0f / 7.0f);
        KilnKeeper all = Kilns.heating(1200, 200);
        for (int pot = 0; pot < 3; pot++) {
            all.pot(60, 117 + pot / 2, 1);
            all.put(pot);
        }
        all.go(4);
        the.isExactly("firedShare() of 2 in 3", all.firedShare(), 2.0f / 3.0f);
        the.isExactly("firedShare() of 0 in 2", Kilns.withPots(2).firedShare(), 0.0f);
        the.says("0.0f without pots.");
        the.isExactly("firedShare() without pots", new KilnKeeper().firedShare(), 0.0f);
    }

    private void undo() {
        the.part("## Promise 33: undo");
        the.says("Undoes the latest change.");
        KilnKeeper x = new KilnKeeper();
        for (int change = 1; change <= 13; change++) {
            x.fuel(1);
        }
        for (int undone = 1; undone <= 3; undone++) {
            x.undo();
            the.is("account(7)", x.account(7), 13 - undone);
        }
        for (int change = 1; change <= 2; change++) {
            x.fuel(100);
        }
        int[] fuels = {110, 10, 9, 8, 7, 6, 5};
        for (int fuel : fuels) {
            x.undo();
            the.is("account(7)", x.account(7), fuel);
        }
        the.says("Returns the number of changes that can still be undone");
        KilnKeeper y = new KilnKeeper();
        for (int change = 1; change <= 9; change++) {
            y.aim(20 + change);
        }
        for (int left = 7; left >= 0; left--) {
            the.is("undo()", y.undo(), left);
            the.is("account(2)", y.account(2), 21 + left);
            the.is("account(17)", y.account(17), left);
        }
        the.says("NOTHING if there is none.");
        the.is("undo() of no more", y.undo(), NOTHING);
        the.is("account(2)", y.account(2), 21);
        the.is("account(17)", y.account(17), 0);
        the.is("undo() at first", new KilnKeeper().undo(), NOTHING);
        KilnKeeper failed = new KilnKeeper();
        failed.aim(20);
        failed.go(0);
        failed.put(0);
        Due.run(failed, "fuel 1;go 0");
        the.is("undo() of what failed", failed.undo(), NOTHING);
    }

    private static void changeAll(KilnKeeper x) {
        x.fuel(500);
        x.aim(200);
        x.gains(9, 8, 7);
        x.cap(100);
        x.lag(1);
        x.pot(60, 100, 20);
        x.put(0);
        x.go(8);
    }

    private void save() {
        the.part("## Promise 34: save");
        the.says("Saves all that changes can change");
        KilnKeeper x = new KilnKeeper();
        changeAll(x);
        String saved = Kilns.all(x);
        x.save();
        x.take(0);
        x.go(30);
        x.pot(1, 100, 1);
        x.aim(20);
        x.gains(1, 1, 1);
        x.cap(7);
        x.lag(0);
        x.fuel(9);
        x.restore();
        the.isText("all behind restore()", Kilns.all(x), saved);
        the.is("gains", x.gains(0, 0, 0), 90807);
        the.is("cap", x.cap(0), 100);
        the.is("lag", x.lag(0), 1);
        the.says("in place of an earlier snapshot.");
        KilnKeeper y = new KilnKeeper();
        y.fuel(1);
        y.save();
        y.fuel(1);
        y.save();
        y.fuel(1);
        y.restore();
        the.is("account(7)", y.account(7), 2);
        the.says("Returns the minutes so far.");
        the.is("save() without minutes", y.save(), 0);
        y.go(300);
        y.go(7);
        the.is("save() behind 307", y.save(), 307);
        the.is("account(17), which stays", y.account(17), 2);
        the.is("undo() behind save()", y.undo(), 1);
        the.is("save() behind undo()", y.save(), 300);
    }

    private void restore() {
        the.part("## Promise 35: restore");
        the.says("Restores the snapshot, which stays.");
        KilnKeeper x = new KilnKeeper();
        x.fuel(5);
        x.go(2);
        x.save();
        for (int times = 1; times <= 3; times++) {
            x.fuel(7);
            x.go(9);
            x.pot(1, 100, 1);
            the.is("restore()", x.restore(), 2);
            the.is("account(7)", x.account(7), 5);
            the.is("account(10)", x.account(10), 0);
            the.is("logged(2, 0)", x.logged(2, 0), NONE);
        }
        the.says("Nothing can be undone then.");
        x.fuel(1);
        x.restore();
        the.is("account(17)", x.account(17), 0);
        the.is("undo()", x.undo(), NOTHING);
        the.is("account(7)", x.account(7), 5);
        x.fuel(3);
        the.is("undo() of a change since then", x.undo(), 0);
        the.is("account(7)", x.account(7), 5);
        the.says("Returns the minutes so far");
        x.go(300);
        the.is("restore()", x.restore(), 2);
        the.is("account(0)", x.account(0), 2);
        the.says("NOTHING if there is no snapshot.");
        KilnKeeper y = new KilnKeeper();
        y.fuel(4);
        the.is("restore() without a snapshot", y.restore(), NOTHING);
        the.is("account(7)", y.account(7), 4);
        the.is("account(17)", y.account(17), 1);
        y.save();
        y.undo();
        the.is("restore() of the snapshot", y.restore(), 0);
        the.is("account(7)", y.account(7), 4);
    }

    public static void main(String[] args) throws Exception {
        Sentences the = new Sentences();
        EdgesOfAccountsTest test = new EdgesOfAccountsTest(the);
        test.reason();
        test.account();
        test.isBalanced();
        test.shares();
        test.undo();
        test.save();
        test.restore();
        the.end();
    }
}
