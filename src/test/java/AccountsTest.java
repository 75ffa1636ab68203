/** Promises 28 to 35: reason, account, isBalanced, the two shares, undo, save and restore. */
public final class AccountsTest {
    private static final int BAD = KilnKeeper.BAD;
    private static final int REFUSED = KilnKeeper.REFUSED;
    private static final int NOTHING = KilnKeeper.NOTHING;

    private final Due due = new Due();

    private void promise28Reason() {
        KilnKeeper x = new KilnKeeper();
        due.is("28: reason(false)", x.reason(false), NOTHING);
        due.is("28: reason(true)", x.reason(true), NOTHING);
        x.put(0);
        x.aim(0);
        due.is("28: NONE and BAD are no reasons", x.reason(false), NOTHING);
        x.lag(0);
        due.is("28: reason(false)", x.reason(false), 5);
        due.is("28: reason(true)", x.reason(true), 0);
        x.pot(60, 100, 1);
        x.take(0);
        due.is("28: the latest", Due.reason(x), 300);
        due.is("28: asking changes nothing", Due.reason(x), 300);
        x.save();
        x.cap(2000);
        x.undo();
        x.restore();
        due.is("28: neither undone nor saved", Due.reason(x), 2500);
    }

    private void areAccounts(String when, KilnKeeper x, int[] all) {
        for (int what = 0; what < all.length; what++) {
            due.is("29: " + when + ": account(" + what + ")", x.account(what), all[what]);
        }
    }

    private void promise29Account() {
        KilnKeeper x = new KilnKeeper();
        due.is("29: account(-1)", x.account(-1), BAD);
        due.is("29: account(18)", x.account(18), BAD);
        due.is("29: account(least)", x.account(Integer.MIN_VALUE), BAD);
        x.pot(60, 100, 1);
        x.pot(5, 100, 1);
        x.pot(60, 900, 1);
        x.pot(60, 900, 1);
        x.pot(60, 900, 1);
        x.put(0);
        x.put(1);
        x.put(2);
        x.fuel(230);
        x.append('g');
        x.aim(120);
        areAccounts("ahead", x, new int[] {
            0, 20, 120, 100, 0, 0, 0, 230, 230, 0, 5, 2, 3, 0, 0, 3, 1, 8});
        x.go(5);
        areAccounts("behind", x, new int[] {
            5, 105, 120, 15, 324, 23, 23, 46, 230, 0, 5, 2, 1, 1, 1, 3, 1, 8});
        x.gains(50, 0, 0);
        x.go(2);
        areAccounts("overshooting", x, new int[] {
            7, 120, 120, 0, 336, -3, 23, 0, 230, 3, 5, 2, 1, 1, 1, 3, 1, 8});
    }

    private void promise30IsBalanced() {
        KilnKeeper x = new KilnKeeper();
        due.is("30: new", x.isBalanced(), 1);
        x.fuel(500);
        due.is("30: with fuel", x.isBalanced(), 1);
        x.pot(60, 100, 1);
        x.put(0);
        x.aim(150);
        x.go(3);
        due.is("30: burning", x.isBalanced(), 1);
        x.go(300);
        due.is("30: without fuel", x.isBalanced(), 1);
        x.undo();
        due.is("30: undone", x.isBalanced(), 1);
        due.is("30: that is 1 by what can be asked", x.account(8), x.account(7) + x.burnt());
    }

    private void promise31MeanBurnt() {
        KilnKeeper x = new KilnKeeper();
        due.isExactly("31: without minutes", x.meanBurnt(), 0.0);
        x.go(1);
        due.isExactly("31: without fuel", x.meanBurnt(), 0.0);
        x.fuel(100);
        x.aim(1200);
        x.go(2);
        due.isExactly("31: 60 in 3", x.meanBurnt(), 20.0);
        x.go(3);
        due.isExactly("31: 100 in 6", x.meanBurnt(), 100.0 / 6.0);
        x.go(1);
        due.isExactly("31: 100 in 7", x.meanBurnt(), 100.0 / 7.0);
    }

    private void promise32FiredShare() {
        KilnKeeper x = new KilnKeeper();
        due.isExactly("32: without pots", x.firedShare(), 0.0f);
        x.pot(60, 100, 1);
        due.isExactly("32: none of one", x.firedShare(), 0.0f);
        x.put(0);
        x.fuel(300);
        x.aim(120);
        x.go(10);
        due.isExactly("32: one of one", x.firedShare(), 1.0f);
        x.pot(60, 900, 1);
        due.isExactly("32: one of two", x.firedShare(), 0.5f);
        x.pot(60, 900, 1);
        due.isExactly("32: one of three", x.firedShare(), 1.0f / 3.0f);
        x.aim(20);
        x.go(300);
        x.take(0);
        due.isExactly("32: taken out", x.firedShare(), 1.0f / 3.0f);
    }

    private void promise33Undo() {
        KilnKeeper x = new KilnKeeper();
        due.is("33: nothing", x.undo(), NOTHING);
        x.aim(19);
        x.aim(20);
        x.take(0);
        Due.run(x, "go 0");
        x.tell();
        x.append('g');
        x.save();
        due.is("33: none of these is a change", x.undo(), NOTHING);
        for (int degrees = 21; degrees <= 30; degrees++) {
            due.is("33: aim(" + degrees + ")", x.aim(degrees), degrees - 1);
            due.is("33: can be undone", x.account(17), Math.min(degrees - 20, 8));
        }
        for (int left = 7; left >= 0; left--) {
            due.is("33: undo()", x.undo(), left);
            due.is("33: aims at", x.account(2), 22 + left);
            due.is("33: can be undone", x.account(17), left);
        }
        due.is("33: no more than 8", x.undo(), NOTHING);
        due.is("33: aims at", x.account(2), 22);
        due.is("33: the text stays", x.account(16), 1);
        x.aim(100);
        due.is("33: a new one", x.undo(), 0);
        due.is("33: aims at", x.account(2), 22);
    }

    private void promise33EachChange() {
        KilnKeeper x = new KilnKeeper();
        x.pot(60, 100, 1);
        x.put(0);
        x.take(0);
        due.is("33: take", x.undo(), 2);
        due.is("33: in the kiln again", x.potOf(0, 3) + 10 * x.potOf(0, 5), 11);
        due.is("33: put", x.undo(), 1);
        due.is("33: waits again", x.potOf(0, 3) + 10 * x.potOf(0, 5), 0);
        due.is("33: pot", x.undo(), 0);
        due.is("33: none again", x.account(10), 0);
        x.gains(10, 0, 0);
        due.is("33: gains by which nothing is different", x.undo(), 0);
        x.gains(1, 2, 3);
        x.undo();
        due.is("33: gains", x.gains(10, 0, 0), 100000);
        x.cap(5);
        x.undo();
        due.is("33: cap", x.cap(7), 2000);
        x.lag(3);
        x.undo();
        due.is("33: lag", x.lag(2), 0);
        x.fuel(900);
        x.aim(200);
        x.pot(60, 100, 9);
        x.put(0);
        String before = Due.kiln(x);
        Due.run(x, "go 6;aim 300;fuel 9;go 3");
        due.is("33: a run", x.undo(), 7);
        due.isText("33: the kiln as it was", Due.kiln(x), before);
        int[] accounts = {0, 20, 200, 180, 0, 0, 0, 900, 900, 0, 1, 0, 1, 0, 0, 1, 0, 7};
        areAccounts("undone", x, accounts);
        due.is("33: no minutes", x.logged(0, 0), KilnKeeper.NONE);
        due.is("33: no amounts", x.minutesWith(20) + x.minutesWith(0), 0);
        due.is("33: nothing soaked", x.potOf(0, 4) + x.potOf(0, 6), 0);
    }

    /** Each change keeps the kiln as it is just ahead of it, and not as it was ahead of another one. */
    private void promise33ChangeBehindChange() {
        KilnKeeper x = new KilnKeeper();
        x.pot(60, 900, 1);
        x.put(0);
        x.aim(100);
        x.gains(1, 2, 3);
        due.is("33: undo() of gains", x.undo(), 3);
        due.is("33: the aim stays", x.account(2), 100);
        x.aim(300);
        due.is("33: BAD gains", x.gains(0, 0, 51), BAD);
        due.is("33: the aim stays", x.account(2), 300);
        String[] orders = {"aim 400", "gain 1 2 3", "cap 5", "lag 3", "fuel 7", "pot 9 300 9", "go 1"};
        x.aim(200);
        for (String order : orders) {
            x.fuel(9);
            int fuel = x.account(7);
            due.is("33: " + order, Due.run(x, order), 1);
            x.undo();
            due.is("33: the fuel ahead of " + order, x.account(7), fuel);
            x.cap(10 + fuel);
            due.is("33: fails", Due.run(x, order + ";go 0"), REFUSED);
            due.is("33: the cap ahead of that", x.cap(fuel), 10 + fuel);
        }
    }

    /** The same by calls: what came ahead of a change that is undone, or refused, stays. */
    private void promise33CallBehindCall() {
        KilnKeeper x = new KilnKeeper();
        x.pot(60, 900, 1);
        for (int call = 0; call < 9; call++) {
            x.fuel(9);
            int fuel = x.account(7);
            changeBy(x, call, true);
            due.is("33: undo() of call " + call, x.undo() >= 0 ? 1 : 0, 1);
            due.is("33: the fuel ahead of call " + call, x.account(7), fuel);
            x.fuel(9);
            due.is("33: a wrong call " + call, changeBy(x, call, false) < 0 ? 1 : 0, 1);
            due.is("33: the fuel behind it", x.account(7), fuel + 9);
        }
        x.put(0);
        x.fuel(9);
        x.take(0);
        x.undo();
        due.is("33: the fuel ahead of take", x.account(7), 9 * 19);
    }

    private static int changeBy(KilnKeeper x, int call, boolean isRight) {
        int number = isRight ? 1 : -1;
        switch (call) {
            case 0:
                return x.aim(isRight ? 300 : 19);
            case 1:
                return x.gains(number, 0, 0);
            case 2:
                return x.cap(number);
            case 3:
                return x.lag(number);
            case 4:
                return x.fuel(number);
            case 5:
                return x.go(number);
            case 6:
                return x.pot(number, 100, 1);
            case 7:
                return x.put(isRight ? 0 : -1);
            default:
                return isRight ? Due.run(x, "go 1") : x.take(-1);
        }
    }

    private void promise33TheLog() {
        KilnKeeper x = new KilnKeeper();
        x.fuel(900);
        x.aim(200);
        x.go(5);
        int degrees = x.logged(0, 0);
        x.go(20);
        x.undo();
        due.is("33: minutes", x.account(0), 5);
        due.is("33: the latest again", x.logged(0, 0), degrees);
        due.is("33: the first again", x.logged(4, 0), 30);
        due.is("33: none ahead of it", x.logged(5, 0), KilnKeeper.NONE);
    }

    private void promises34And35Snapshot() {
        KilnKeeper x = new KilnKeeper();
        due.is("35: no snapshot", x.restore(), NOTHING);
        due.is("34: save()", x.save(), 0);
        x.fuel(500);
        x.aim(200);
        x.gains(9, 8, 7);
        x.cap(100);
        x.lag(1);
        x.pot(60, 100, 20);
        x.put(0);
        x.go(8);
        String saved = Due.kiln(x);
        due.is("34: save() again", x.save(), 8);
        due.is("34: it is no change", x.account(17), 8);
        x.go(3);
        x.take(0);
        x.pot(1, 100, 1);
        x.aim(20);
        x.gains(1, 1, 1);
        x.cap(7);
        due.is("34: undo() still goes", x.undo(), 7);
        due.is("35: restore()", x.restore(), 8);
        due.is("35: nothing can be undone", x.undo(), NOTHING);
        due.is("35: nor told", x.account(17), 0);
        due.isText("35: the kiln", Due.kiln(x), saved);
        due.is("35: pots", x.account(10), 1);
        due.is("35: sum", x.account(4), 100);
        due.is("35: the fuel burnt", x.burnt(), 500 - x.account(7));
        due.is("35: and again", x.burntAgain(), x.burnt());
        x.go(1);
        due.is("35: then a change", x.account(17), 1);
        due.is("35: it stays", x.restore(), 8);
        due.isText("35: the kiln", Due.kiln(x), saved);
        due.is("35: gains", x.gains(0, 0, 0), 90807);
        due.is("35: cap", x.cap(0), 100);
        due.is("35: lag", x.lag(0), 1);
        due.is("35: undo() of that", x.undo(), 2);
        x.save();
        due.is("34: save() keeps what can be undone", x.undo(), 1);
        due.is("35: restore() of the latest one", x.restore(), 8);
        due.is("35: its gains", x.gains(0, 0, 0), 0);
        due.is("35: its cap", x.cap(1), 0);
        due.is("35: its lag", x.lag(2), 1);
    }

    private void promise35TextAndReasonStay() {
        KilnKeeper x = new KilnKeeper();
        x.append('g');
        x.save();
        x.append('o');
        due.is("35: REFUSED", x.cap(2000), REFUSED);
        x.tell();
        x.restore();
        due.is("35: the text stays", x.account(16), 2);
        due.is("35: the reason stays", Due.reason(x), 2500);
        due.isText("35: the line stays", Due.line(x), "20>20d0f0");
    }

    public static void main(String[] args) {
        AccountsTest test = new AccountsTest();
        test.promise28Reason();
        test.promise29Account();
        test.promise30IsBalanced();
        test.promise31MeanBurnt();
        test.promise32FiredShare();
        test.promise33Undo();
        test.promise33EachChange();
        test.promise33ChangeBehindChange();
        test.promise33CallBehindCall();
        test.promise33TheLog();
        test.promises34And35Snapshot();
        test.promise35TextAndReasonStay();
        test.due.end();
    }
}
