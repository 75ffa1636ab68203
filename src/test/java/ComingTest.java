/** Promises 15 to 22: what comes, the log of minutes, and fuel burnt in two ways. */
public final class ComingTest {
    private static final int BAD = KilnKeeper.BAD;
    private static final int NOTHING = KilnKeeper.NOTHING;
    private static final int NONE = KilnKeeper.NONE;

    private final Due due = new Due();

    private static KilnKeeper heating(int aim, int fuel) {
        KilnKeeper x = new KilnKeeper();
        x.fuel(fuel);
        x.aim(aim);
        return x;
    }

    private void promise15DegreesIn() {
        KilnKeeper x = heating(1200, 9999);
        due.is("15: degreesIn(-1)", x.degreesIn(-1), BAD);
        due.is("15: degreesIn(301)", x.degreesIn(301), BAD);
        int[] degrees = {20, 30, 50, 79, 117, 164, 209, 252, 293, 333, 371};
        for (int minutes = 0; minutes < degrees.length; minutes++) {
            due.is("15: degreesIn(" + minutes + ")", x.degreesIn(minutes), degrees[minutes]);
        }
        int late = x.degreesIn(300);
        due.is("15: no minute went by", x.account(0), 0);
        due.is("15: no fuel burnt", x.account(7), 9999);
        due.is("15: nor is it a change", x.account(17), 2);
        due.is("15: go(300)", x.go(300), late);
    }

    private void promise16Wanted() {
        KilnKeeper x = heating(70, 9999);
        due.is("16: wanted()", x.wanted(), 50);
        due.is("16: and the sum is as it was", x.account(4), 0);
        due.is("16: again", x.wanted(), 50);
        x.aim(120);
        due.is("16: at most 100", x.wanted(), 100);
        x.aim(121);
        due.is("16: more is no more", x.wanted(), 100);
        x.aim(119);
        due.is("16: 99", x.wanted(), 99);
        x.go(4);
        due.is("16: near", x.account(3), 22);
        due.is("16: 22", x.wanted(), 22);
        x.aim(20);
        due.is("16: not below 0", x.wanted(), 0);
        x.gains(0, 10, 0);
        due.is("16: by the sum of 297 and the error of -77", x.wanted(), 22);
        x.cap(100);
        due.is("16: within the cap at once", x.wanted(), 2);
        x.aim(112);
        due.is("16: the cap with the error", x.wanted(), 10);
        x.gains(0, 0, 1);
        due.is("16: the change from 40 to 15 is below 0", x.wanted(), 0);
        x.lag(5);
        x.gains(20, 0, 0);
        due.is("16: without the lag", x.wanted(), 30);
    }

    private void promise17SettlesIn() {
        KilnKeeper x = new KilnKeeper();
        due.is("17: at once", x.settlesIn(), 10);
        x.go(9);
        due.is("17: minutes that went by do not count", x.settlesIn(), 10);
        x.go(300);
        due.is("17: nor many", x.settlesIn(), 10);
        x.aim(25);
        due.is("17: 5 off", heatlessly(25).settlesIn(), 10);
        due.is("17: 6 off", heatlessly(26).settlesIn(), NOTHING);
        KilnKeeper y = new KilnKeeper();
        y.gains(0, 2, 40);
        y.cap(2188);
        y.aim(149);
        y.fuel(9999);
        due.is("17: in the last minute", y.settlesIn(), 300);
        due.is("17: no minute went by", y.account(0), 0);
        y.go(1);
        due.is("17: a minute later", y.settlesIn(), 299);
        KilnKeeper z = new KilnKeeper();
        z.gains(2, 1, 40);
        z.cap(2083);
        z.aim(138);
        z.fuel(9999);
        due.is("17: a minute too late", z.settlesIn(), NOTHING);
        z.go(1);
        due.is("17: just in time", z.settlesIn(), 300);
    }

    private static KilnKeeper heatlessly(int aim) {
        KilnKeeper x = new KilnKeeper();
        x.aim(aim);
        return x;
    }

    private void promise17Above() {
        KilnKeeper x = heating(1200, 82);
        x.go(3);
        due.is("17: at", x.account(1), 60);
        x.aim(39);
        due.is("17: cools down to 5 above", x.settlesIn(), 25);
        x.aim(38);
        due.is("17: stays 6 above", x.settlesIn(), NOTHING);
    }

    private void promise18WouldOvershoot() {
        KilnKeeper x = heating(100, 9999);
        x.gains(50, 0, 0);
        due.is("18: wouldOvershoot(-1)", x.wouldOvershoot(-1), BAD);
        due.is("18: wouldOvershoot(301)", x.wouldOvershoot(301), BAD);
        int[] over = {0, 0, 0, 0, 17, 44, 60, 65, 65};
        for (int minutes = 0; minutes < over.length; minutes++) {
            due.is("18: wouldOvershoot(" + minutes + ")", x.wouldOvershoot(minutes), over[minutes]);
        }
        due.is("18: nothing by that", x.account(9), 0);
        x.go(20);
        due.is("18: degrees", x.account(1) < 165 ? 1 : 0, 1);
        due.is("18: what was so far counts", x.wouldOvershoot(0), 65);
        due.is("18: wouldOvershoot(300)", x.wouldOvershoot(300), 65);
        due.is("18: account(9)", x.account(9), 65);
        x.aim(120);
        due.is("18: anew", x.wouldOvershoot(0), 0);
    }

    private void promise19Logged() {
        KilnKeeper x = heating(120, 101);
        due.is("19: no minute", x.logged(0, 0), NONE);
        due.is("19: NONE ahead of BAD", x.logged(0, 4), NONE);
        x.go(4);
        int[][] latestFirst = {{68, 51, 51, 0}, {69, 60, 70, 41}, {50, 40, 90, 40}, {30, 20, 100, 20}};
        for (int place = 0; place < 4; place++) {
            for (int what = 0; what < 4; what++) {
                due.is("19: logged(" + place + ", " + what + ")",
                        x.logged(place, what), latestFirst[place][what]);
            }
        }
        due.is("19: logged(4, 0)", x.logged(4, 0), NONE);
        due.is("19: logged(-1, 0)", x.logged(-1, 0), NONE);
        due.is("19: logged(-1, 9)", x.logged(-1, 9), NONE);
        due.is("19: logged(0, -1)", x.logged(0, -1), BAD);
        due.is("19: logged(3, 4)", x.logged(3, 4), BAD);
        x.go(8);
        due.is("19: the first of 12", x.logged(11, 3), 20);
        due.is("19: logged(12, 0)", x.logged(12, 0), NONE);
        x.go(1);
        due.is("19: the second of 13", x.logged(11, 2), 90);
        due.is("19: logged(12, 0)", x.logged(12, 0), NONE);
        due.is("19: the latest", x.logged(0, 0), x.account(1));
        x.go(300);
        due.is("19: all are the same", x.logged(0, 0), x.logged(11, 0));
    }

    /** Each of the 12 places is told in full, wherever the row of minutes begins. */
    private void promise19LoggedInEveryPlace() {
        int[][] row = {{30, 20, 1180, 20}, {50, 40, 1170, 40}, {79, 60, 1150, 60}, {117, 80, 1121, 80},
            {164, 100, 1083, 100}, {209, 100, 1036, 100}, {252, 100, 991, 100}, {293, 100, 948, 100},
            {333, 100, 907, 100}, {371, 100, 867, 100}, {407, 100, 829, 100}, {442, 100, 793, 100},
            {476, 100, 758, 100}, {508, 100, 724, 100}};
        KilnKeeper x = heating(1200, 9999);
        x.go(11);
        for (int minutes = 12; minutes <= 14; minutes++) {
            x.go(1);
            for (int place = 0; place < 12; place++) {
                for (int what = 0; what < 4; what++) {
                    due.is("19: behind " + minutes + ", logged(" + place + ", " + what + ")",
                            x.logged(place, what), row[minutes - 1 - place][what]);
                }
            }
        }
    }

    private void promises20And21Burnt() {
        KilnKeeper x = heating(1200, 150);
        due.is("20: none", x.burnt(), 0);
        due.is("21: none", x.burntAgain(), 0);
        int[] burnt = {20, 60, 120, 150, 150};
        for (int minute = 0; minute < burnt.length; minute++) {
            x.go(1);
            due.is("20: behind " + (minute + 1), x.burnt(), burnt[minute]);
            due.is("21: behind " + (minute + 1), x.burntAgain(), burnt[minute]);
        }
        x.fuel(1000);
        x.go(10);
        due.is("20: all minutes", x.burnt(), 1150);
        due.is("21: all minutes", x.burntAgain(), 1150);
        x.undo();
        due.is("20: undone", x.burnt(), 150);
        due.is("21: undone", x.burntAgain(), 150);
    }

    private void promise22MinutesWith() {
        KilnKeeper x = heating(1200, 460);
        due.is("22: minutesWith(-1)", x.minutesWith(-1), BAD);
        due.is("22: minutesWith(101)", x.minutesWith(101), BAD);
        due.is("22: none", x.minutesWith(0), 0);
        x.go(9);
        int[][] all = {{0, 2}, {1, 0}, {20, 1}, {40, 1}, {60, 2}, {80, 1}, {99, 0}, {100, 2}};
        for (int[] amount : all) {
            due.is("22: minutesWith(" + amount[0] + ")", x.minutesWith(amount[0]), amount[1]);
        }
    }

    public static void main(String[] args) {
        ComingTest test = new ComingTest();
        test.promise15DegreesIn();
        test.promise16Wanted();
        test.promise17SettlesIn();
        test.promise17Above();
        test.promise18WouldOvershoot();
        test.promise19Logged();
        test.promise19LoggedInEveryPlace();
        test.promises20And21Burnt();
        test.promise22MinutesWith();
        test.due.end();
    }
}
