/** The examples of the document, call by call. */
public final class ExamplesTest {
    private static void first(Due due) {
        KilnKeeper x = new KilnKeeper();
        due.is("fuel(100)", x.fuel(100), 100);
        due.is("aim(120)", x.aim(120), 20);
        due.is("wanted()", x.wanted(), 100);
        due.is("go(1)", x.go(1), 30);
        due.is("account(6)", x.account(6), 20);
        due.is("account(1)", x.account(1), 30);
        due.is("account(5)", x.account(5), 100);
        due.is("account(4)", x.account(4), 100);
        due.is("logged(0, 3)", x.logged(0, 3), 20);
        due.is("degreesIn(1)", x.degreesIn(1), 50);
        due.is("go(2)", x.go(2), 69);
        due.is("account(1)", x.account(1), 69);
        due.is("burntAgain()", x.burntAgain(), 100);
        due.is("minutesWith(20)", x.minutesWith(20), 1);
        due.is("tell()", x.tell(), 11);
        due.is("character(3)", x.character(3), 49);
    }

    private static void second(Due due) {
        KilnKeeper x = new KilnKeeper();
        due.is("lag(2)", x.lag(2), 0);
        due.is("fuel(500)", x.fuel(500), 500);
        due.is("aim(1000)", x.aim(1000), 20);
        due.is("go(2)", x.go(2), 20);
        due.is("account(6)", x.account(6), 0);
        due.is("go(1)", x.go(1), 30);
        due.is("account(6)", x.account(6), 20);
        due.is("lag(0)", x.lag(0), 2);
        due.is("go(1)", x.go(1), 50);
        due.is("account(6)", x.account(6), 40);
        due.is("tell()", x.tell(), 14);
        due.isExactly("meanBurnt()", x.meanBurnt(), 15.0);
    }

    private static void third(Due due) {
        KilnKeeper x = new KilnKeeper();
        due.is("pot(5, 100, 1)", x.pot(5, 100, 1), 0);
        due.is("put(0)", x.put(0), 1);
        due.is("put(0)", x.put(0), -10004);
        due.is("reason(true)", x.reason(true), 1);
        due.is("fuel(900)", x.fuel(900), 900);
        due.is("aim(500)", x.aim(500), 20);
        due.is("go(2)", x.go(2), 50);
        due.is("potOf(0, 3)", x.potOf(0, 3), 3);
        due.is("potOf(0, 6)", x.potOf(0, 6), 10);
        due.is("take(0)", x.take(0), 3);
        due.is("reason(true)", x.reason(true), 1);
        due.is("wouldCrack(9)", x.wouldCrack(9), 0);
        due.is("tellPot(0)", x.tellPot(0), 12);
        due.is("character(4)", x.character(4), 49);
    }

    private static void fourth(Due due) {
        KilnKeeper x = new KilnKeeper();
        due.is("aim(20)", x.aim(20), -10004);
        due.is("reason(true)", x.reason(true), 20);
        due.is("gains(50, 0, 0)", x.gains(50, 0, 0), 100000);
        due.is("gains(51, 0, 0)", x.gains(51, 0, 0), -10002);
        due.is("settlesIn()", x.settlesIn(), 10);
        due.is("cap(2000)", x.cap(2000), -10004);
        due.is("cap(0)", x.cap(0), 2000);
        due.is("account(4)", x.account(4), 0);
    }

    private static void fifth(Due due) {
        KilnKeeper x = new KilnKeeper();
        due.is("pot(60, 100, 1)", x.pot(60, 100, 1), 0);
        due.is("append(112)", x.append(112), 1);
        due.is("append(117)", x.append(117), 2);
        due.is("append(116)", x.append(116), 3);
        due.is("append(32)", x.append(32), 4);
        due.is("append(49)", x.append(49), 5);
        due.is("run()", x.run(), -10004);
        due.is("reason(true)", x.reason(true), 0);
        due.is("append(103)", x.append(103), 1);
        due.is("append(117)", x.append(117), 2);
        due.is("run()", x.run(), -20001);
        due.is("firedIn(0)", x.firedIn(0), -10005);
    }

    public static void main(String[] args) {
        Due due = new Due();
        first(due);
        second(due);
        third(due);
        fourth(due);
        fifth(due);
        due.end();
    }
}
