/** Promises 1 to 7: a new object, aim, gains, cap, lag, fuel and go. */
public final class AimingTest {
    private static final int BAD = KilnKeeper.BAD;
    private static final int REFUSED = KilnKeeper.REFUSED;
    private static final int NOTHING = KilnKeeper.NOTHING;
    private static final int NONE = KilnKeeper.NONE;

    private final Due due = new Due();

    private void promise1NewObject() {
        KilnKeeper x = new KilnKeeper();
        int[] accounts = {0, 20, 20, 0, 0, 0, 0, 0, 0, 0, 0, 0, 0, 0, 0, 0, 0, 0};
        for (int what = 0; what < accounts.length; what++) {
            due.is("1: account(" + what + ")", x.account(what), accounts[what]);
        }
        due.is("1: character(0)", x.character(0), NONE);
        due.isText("1: tell()", Due.kiln(x), "20>20d0f0");
        due.is("1: reason(false)", x.reason(false), NOTHING);
        due.is("1: reason(true)", x.reason(true), NOTHING);
        due.is("1: undo()", x.undo(), NOTHING);
        due.is("1: restore()", x.restore(), NOTHING);
        due.is("1: logged(0, 0)", x.logged(0, 0), NONE);
        due.is("1: potOf(0, 0)", x.potOf(0, 0), NONE);
        due.is("1: burnt()", x.burnt(), 0);
        due.is("1: wanted()", x.wanted(), 0);
        due.is("1: gains", x.gains(0, 0, 0), 100000);
        due.is("1: cap", x.cap(1), 2000);
        due.is("1: lag", x.lag(1), 0);
        KilnKeeper other = new KilnKeeper();
        due.is("1: cap of another object", other.cap(1), 2000);
    }

    /** A kiln that went 44 degrees above the 100 at which it aims; its errors were 80, 70, 50, 21, -17. */
    private static KilnKeeper overshooting() {
        KilnKeeper x = new KilnKeeper();
        x.fuel(9999);
        x.gains(50, 0, 0);
        x.aim(100);
        x.go(5);
        return x;
    }

    private void promise2Aim() {
        KilnKeeper x = new KilnKeeper();
        due.is("2: aim(19)", x.aim(19), BAD);
        due.is("2: aim(1201)", x.aim(1201), BAD);
        due.is("2: aim(least)", x.aim(Integer.MIN_VALUE), BAD);
        due.is("2: aim(most)", x.aim(Integer.MAX_VALUE), BAD);
        due.is("2: reason behind BAD", x.reason(false), NOTHING);
        due.is("2: aim(20)", x.aim(20), REFUSED);
        due.is("2: reason", Due.reason(x), 520);
        due.is("2: aim(21)", x.aim(21), 20);
        due.is("2: aim(1200)", x.aim(1200), 21);
        due.is("2: aim(1200) again", x.aim(1200), REFUSED);
        due.is("2: reason", Due.reason(x), 1700);
        due.is("2: aim(1201)", x.aim(1201), BAD);
        due.is("2: what is aimed at", x.account(2), 1200);
        due.is("2: aim(20)", x.aim(20), 1200);
        due.is("2: changes", x.account(17), 3);
    }

    private void promise2AimElsewhere() {
        KilnKeeper x = overshooting();
        due.is("2: degrees", x.account(1), 144);
        due.is("2: overshooting", x.account(9), 44);
        due.is("2: sum", x.account(4), 204);
        due.is("2: error of the latest minute", x.account(5), -17);
        due.is("2: aim(100) again", x.aim(100), REFUSED);
        due.is("2: overshooting stays", x.account(9), 44);
        due.is("2: aim(130)", x.aim(130), 100);
        due.is("2: overshooting anew", x.account(9), 0);
        due.is("2: sum stays", x.account(4), 204);
        due.is("2: latest error stays", x.account(5), -17);
        due.is("2: error now", x.account(3), -14);
        due.is("2: go(1)", x.go(1), 160);
        due.is("2: overshooting since", x.account(9), 30);
        due.is("2: latest error", x.account(5), -14);
    }

    private void promise3Gains() {
        KilnKeeper x = new KilnKeeper();
        due.is("3: first too high", x.gains(51, 0, 0), BAD);
        due.is("3: second too high", x.gains(0, 51, 0), BAD);
        due.is("3: third too high", x.gains(0, 0, 51), BAD);
        due.is("3: first too low", x.gains(-1, 0, 0), BAD);
        due.is("3: second too low", x.gains(0, -1, 0), BAD);
        due.is("3: third too low", x.gains(0, 0, -1), BAD);
        due.is("3: changes", x.account(17), 0);
        due.is("3: each in its place", x.gains(1, 2, 3), 100000);
        due.is("3: each in its place", x.gains(50, 50, 50), 10203);
        due.is("3: BAD changes nothing", x.gains(0, 0, 99), BAD);
        due.is("3: the same again", x.gains(50, 50, 50), 505050);
        due.is("3: changes", x.account(17), 3);
        due.is("3: to 0", x.gains(0, 0, 0), 505050);
        due.is("3: from 0", x.gains(0, 0, 7), 0);
        due.is("3: the third alone", x.gains(0, 0, 0), 7);
    }

    private void promise3WhatIsWanted() {
        KilnKeeper x = new KilnKeeper();
        x.aim(30);
        due.is("3: by the error", x.wanted(), 10);
        x.gains(0, 50, 0);
        due.is("3: by the sum with the error", x.wanted(), 5);
        x.gains(0, 0, 50);
        due.is("3: by the change from 0", x.wanted(), 50);
        x.gains(7, 3, 1);
        due.is("3: together, rounded down", x.wanted(), 8);
        x.gains(1, 0, 0);
        due.is("3: one", x.wanted(), 1);
        x.aim(29);
        due.is("3: less than one", x.wanted(), 0);
    }

    private void promise4Cap() {
        KilnKeeper x = overshooting();
        due.is("4: cap(-1)", x.cap(-1), BAD);
        due.is("4: cap(9001)", x.cap(9001), BAD);
        due.is("4: cap(2000)", x.cap(2000), REFUSED);
        due.is("4: reason", Due.reason(x), 2500);
        due.is("4: cap(9000)", x.cap(9000), 2000);
        due.is("4: sum stays", x.account(4), 204);
        due.is("4: cap(204)", x.cap(204), 9000);
        due.is("4: sum at the cap", x.account(4), 204);
        due.is("4: cap(203)", x.cap(203), 204);
        due.is("4: sum within it at once", x.account(4), 203);
        due.is("4: cap(9000)", x.cap(9000), 203);
        due.is("4: sum does not come back", x.account(4), 203);
        x.cap(100);
        x.aim(20);
        x.go(1);
        due.is("4: sum less by 124", x.account(4), -24);
        x.go(1);
        due.is("4: sum at minus the cap", x.account(4), -100);
        due.is("4: cap(30)", x.cap(30), 100);
        due.is("4: sum within it at once, below 0", x.account(4), -30);
        due.is("4: cap(0)", x.cap(0), 30);
        due.is("4: no sum", x.account(4), 0);
        x.go(1);
        due.is("4: no sum behind a minute", x.account(4), 0);
        due.is("4: cap(0) again", x.cap(0), REFUSED);
        due.is("4: reason", Due.reason(x), 500);
    }

    private void promise5Lag() {
        KilnKeeper x = new KilnKeeper();
        due.is("5: lag(-1)", x.lag(-1), BAD);
        due.is("5: lag(6)", x.lag(6), BAD);
        due.is("5: lag(0)", x.lag(0), REFUSED);
        due.is("5: reason", Due.reason(x), 500);
        due.is("5: lag(3)", x.lag(3), 0);
        due.isText("5: the damper as it is", Due.kiln(x), "20>20d0f0~0~0~0");
        due.is("5: lag(3)", x.lag(3), REFUSED);
        due.is("5: reason", Due.reason(x), 503);
        x.fuel(1000);
        x.aim(90);
        x.go(1);
        due.isText("5: one is wanted", Due.kiln(x), "20>90d0f1000~0~0~70");
        x.aim(50);
        x.go(1);
        due.isText("5: another one", Due.kiln(x), "20>50d0f1000~0~70~30");
        x.aim(120);
        x.go(2);
        due.isText("5: the first one comes out", Due.kiln(x), "30>120d20f980~30~100~100");
        due.is("5: lag(5)", x.lag(5), 3);
        due.isText("5: longer", Due.kiln(x), "30>120d20f980~20~20~30~100~100");
        due.is("5: lag(4)", x.lag(4), 5);
        due.isText("5: the first one is gone", Due.kiln(x), "30>120d20f980~20~30~100~100");
        due.is("5: lag(2)", x.lag(2), 4);
        due.isText("5: two are gone", Due.kiln(x), "30>120d20f980~100~100");
        due.is("5: lag(0)", x.lag(0), 2);
        due.isText("5: all are gone", Due.kiln(x), "30>120d20f980");
        due.is("5: lag(1)", x.lag(1), 0);
        due.isText("5: nothing of them is left", Due.kiln(x), "30>120d20f980~20");
    }

    private void promise6Fuel() {
        KilnKeeper x = new KilnKeeper();
        due.is("6: fuel(0)", x.fuel(0), BAD);
        due.is("6: fuel(-1)", x.fuel(-1), BAD);
        due.is("6: fuel(10000)", x.fuel(10000), BAD);
        due.is("6: none came", x.account(8), 0);
        due.is("6: fuel(1)", x.fuel(1), 1);
        due.is("6: fuel(9999)", x.fuel(9999), 10000);
        x.aim(1200);
        x.go(1);
        due.is("6: what there is", x.account(7), 9980);
        due.is("6: fuel(20)", x.fuel(20), 10000);
        due.is("6: what came", x.account(8), 10020);
    }

    private void promise7Go() {
        KilnKeeper x = new KilnKeeper();
        due.is("7: go(0)", x.go(0), BAD);
        due.is("7: go(-1)", x.go(-1), BAD);
        due.is("7: go(301)", x.go(301), BAD);
        due.is("7: no minutes", x.account(0), 0);
        due.is("7: go(300)", x.go(300), 20);
        due.is("7: minutes", x.account(0), 300);
        due.is("7: go(1)", x.go(1), 20);
        due.is("7: minutes", x.account(0), 301);
    }

    private void promise7OneMinuteAfterTheOther() {
        KilnKeeper x = new KilnKeeper();
        x.fuel(101);
        x.aim(120);
        due.is("7: first", x.go(1), 30);
        due.is("7: second, loses less than a degree", x.go(1), 50);
        due.is("7: third, 41 of 60 burn", x.go(1), 69);
        due.is("7: the damper moved by 20", x.account(6), 60);
        due.is("7: half of 41 is 20", x.account(7), 0);
        due.is("7: fourth, without fuel", x.go(1), 68);
        due.is("7: the damper still moves", x.account(6), 51);
        x.aim(20);
        due.is("7: fifth", x.go(1), 67);
        due.is("7: the damper closes by 20", x.account(6), 31);
        x.go(1);
        due.is("7: and again", x.account(6), 11);
        x.go(1);
        due.is("7: and by the rest", x.account(6), 0);
        due.is("7: less than 25 above 20 stay", x.go(300), 44);
        due.is("7: sum", x.account(4), -2000);
        due.is("7: latest error", x.account(5), -24);
    }

    private void promise7ByTheChange() {
        KilnKeeper x = new KilnKeeper();
        x.fuel(1000);
        x.gains(0, 0, 10);
        x.aim(40);
        due.is("7: the minute before the first one counts as 0", x.wanted(), 20);
        due.is("7: first", x.go(1), 30);
        due.is("7: the change is -10", x.wanted(), 0);
        due.is("7: second", x.go(1), 30);
        due.is("7: no change", x.wanted(), 0);
        x.aim(55);
        due.is("7: the change is 15", x.wanted(), 15);
        due.is("7: half of 15 is 7", x.go(1), 37);
        due.is("7: the change is -7", x.wanted(), 0);
        x.aim(62);
        due.is("7: no change, though it aims elsewhere", x.wanted(), 0);
    }

    public static void main(String[] args) {
        AimingTest test = new AimingTest();
        test.promise1NewObject();
        test.promise2Aim();
        test.promise2AimElsewhere();
        test.promise3Gains();
        test.promise3WhatIsWanted();
        test.promise4Cap();
        test.promise5Lag();
        test.promise6Fuel();
        test.promise7Go();
        test.promise7OneMinuteAfterTheOther();
        test.promise7ByTheChange();
        test.due.end();
    }
}
