/** "Terms", from aiming to lag and overshooting, sentence by sentence. */
public final class TermsOfHeatTest {
    private static final int BAD = KilnKeeper.BAD;
    private static final int NOTHING = KilnKeeper.NOTHING;

    private final Sentences the;

    private TermsOfHeatTest(Sentences the) {
        this.the = the;
    }

    private void numbers() {
        the.part("The kiln settles where it is told.");
        the.says("The kiln settles where it is told.");
        KilnKeeper x = new KilnKeeper();
        x.aim(30);
        the.is("settlesIn(), told to settle at 30", x.settlesIn(), NOTHING);
        x.aim(20);
        the.is("settlesIn(), told to settle at 20", x.settlesIn(), 10);
        the.says("All numbers are whole, but two, and are rounded down if nothing else is said, also below 0.");
        x.gains(1, 0, 0);
        x.aim(40);
        the.is("wanted() of 2", x.wanted(), 2);
        x.aim(39);
        the.is("wanted() of 1.9", x.wanted(), 1);
        x.aim(29);
        the.is("wanted() of 0.9", x.wanted(), 0);
        Kilns.heatBy(x, 50);
        x.gains(0, 1, 0);
        x.cap(1);
        x.go(1);
        the.is("the sum", x.account(4), -1);
        the.is("wanted() of -0.01, which is at least 0", x.wanted(), 0);
    }

    private void aiming() {
        the.part("Aiming. ");
        the.says("Aiming.");
        the.says("The kiln has its degrees, 20 at first, and never less");
        KilnKeeper x = new KilnKeeper();
        the.is("account(1)", x.account(1), 20);
        the.is("go(300) without fuel", x.go(300), 20);
        x.fuel(20);
        x.aim(1200);
        the.is("go(1)", x.go(1), 30);
        the.is("go(300) behind the fuel", x.go(300), 30);
        the.says("it aims at 20 to 1200 degrees, 20 at first.");
        KilnKeeper y = new KilnKeeper();
        the.is("account(2)", y.account(2), 20);
        the.is("aim(19)", y.aim(19), BAD);
        the.is("aim(1200)", y.aim(1200), 20);
        the.is("aim(1201)", y.aim(1201), BAD);
        the.is("account(2)", y.account(2), 1200);
        the.is("aim(20)", y.aim(20), 1200);
        the.says("The error is the degrees at which it aims, less those that it has.");
        the.is("account(3) at the aim", y.account(3), 0);
        x.aim(29);
        the.is("account(3) a degree above", x.account(3), -1);
        x.aim(1200);
        the.is("account(3) far below", x.account(3), 1170);
    }

    private void gains() {
        the.part("Gains. ");
        the.says("Gains.");
        the.says("There are three gains, each from 0 to 50, 10, 0 and 0 at first");
        KilnKeeper x = new KilnKeeper();
        the.is("gains(50, 50, 50)", x.gains(50, 50, 50), 100000);
        int[][] outside = {{51, 0, 0}, {0, 51, 0}, {0, 0, 51}, {-1, 0, 0}, {0, -1, 0}, {0, 0, -1}};
        for (int[] gains : outside) {
            the.is("one is out of range", x.gains(gains[0], gains[1], gains[2]), BAD);
        }
        the.is("gains(0, 0, 0)", x.gains(0, 0, 0), 505050);
        the.is("gains(0, 0, 0) again", x.gains(0, 0, 0), 0);
        the.says("for the error, for the sum and for the change.");
        KilnKeeper y = new KilnKeeper();
        y.aim(30);
        y.go(2);
        y.aim(40);
        y.gains(1, 0, 0);
        the.is("wanted() by the error of 20", y.wanted(), 2);
        y.gains(0, 50, 0);
        the.is("wanted() by the sum of 40", y.wanted(), 20);
        y.gains(0, 0, 11);
        the.is("wanted() by the change of 10", y.wanted(), 11);
        y.gains(0, 0, 0);
        the.is("wanted() by nothing", y.wanted(), 0);
    }

    private void sumAndCap() {
        the.says("The sum is 0 at first");
        KilnKeeper x = new KilnKeeper();
        the.is("account(4)", x.account(4), 0);
        the.says("and is kept within a cap, which is from 0 to 9000, 2000 at first");
        the.is("cap(-1)", x.cap(-1), BAD);
        the.is("cap(9001)", x.cap(9001), BAD);
        x.aim(1200);
        x.go(1);
        the.is("the sum behind a minute", x.account(4), 1180);
        x.go(1);
        the.is("the sum at the first cap", x.account(4), 2000);
        the.is("cap(9000)", x.cap(9000), 2000);
        x.go(5);
        the.is("the sum below the most cap", x.account(4), 7900);
        x.go(1);
        the.is("the sum at the most cap", x.account(4), 9000);
        the.is("cap(0)", x.cap(0), 9000);
        the.is("the sum without a cap", x.account(4), 0);
        the.says("it is never above the cap, nor below it with a minus.");
        KilnKeeper y = Kilns.heating(1200, 20);
        y.cap(15);
        y.go(1);
        the.is("the sum at the cap", y.account(4), 15);
        y.aim(20);
        int[] sums = {5, -5, -15, -15};
        for (int sum : sums) {
            y.go(1);
            the.is("the sum less by 10", y.account(4), sum);
        }
        y.aim(60);
        int[] again = {15, 15};
        for (int sum : again) {
            y.go(1);
            the.is("the sum more by 30", y.account(4), sum);
        }
    }

    private void errorsOfAMinute() {
        the.part("Minutes. ");
        the.says("Minutes.");
        the.says("A minute goes by so.");
        KilnKeeper x = Kilns.heating(120, 100);
        the.is("go(1)", x.go(1), 30);
        the.is("account(0)", x.account(0), 1);
        the.says("First, the error is taken as the kiln is");
        the.is("account(5) of 20 degrees", x.account(5), 100);
        the.is("logged(0, 2)", x.logged(0, 2), 100);
        the.is("account(3) of 30 degrees", x.account(3), 90);
        the.says("the sum becomes more by the error, within its cap");
        the.is("account(4)", x.account(4), 100);
        x.cap(189);
        x.go(1);
        the.is("account(4), 100 and 90 within 189", x.account(4), 189);
        KilnKeeper y = Kilns.heating(1200, 100);
        y.cap(10);
        y.gains(0, 50, 0);
        the.is("wanted() by the sum within its cap", y.wanted(), 5);
        the.says("the change is the error less that of the minute before");
        KilnKeeper z = new KilnKeeper();
        z.gains(0, 0, 10);
        z.aim(50);
        z.go(1);
        the.is("wanted() by no change", z.wanted(), 0);
        z.aim(51);
        the.is("wanted() by a change of 1", z.wanted(), 1);
        z.aim(49);
        the.is("wanted() by a change of -1", z.wanted(), 0);
        z.gains(1, 0, 10);
        the.is("wanted(), less by that change", z.wanted(), 1);
        the.says("ahead of the first minute this one counts as 0.");
        KilnKeeper first = Kilns.heating(37, 100);
        first.gains(0, 0, 10);
        the.is("wanted() by a change of 17", first.wanted(), 17);
        first.go(1);
        the.is("account(6)", first.account(6), 17);
    }

    private void wantedDamper() {
        the.says("The damper that is wanted is 10 times the first gain times the error, and the second gain"
                + " times the sum, and 10 times the third gain times the change, together, divided by 100");
        KilnKeeper x = new KilnKeeper();
        x.aim(120);
        x.go(1);
        x.aim(70);
        x.gains(10, 2, 4);
        the.is("wanted() by 5000, 300 and -2000", x.wanted(), 33);
        x.gains(10, 2, 10);
        the.is("wanted() by 5000, 300 and -5000", x.wanted(), 3);
        the.says("but from 0 to 100.");
        x.gains(10, 0, 11);
        the.is("wanted() by 5000 and -5500", x.wanted(), 0);
        x.gains(10, 0, 10);
        the.is("wanted() by 5000 and -5000", x.wanted(), 0);
        x.gains(20, 0, 0);
        the.is("wanted() by 10000", x.wanted(), 100);
        x.gains(20, 1, 0);
        the.is("wanted() by 10150", x.wanted(), 100);
        x.gains(21, 0, 1);
        the.is("wanted() by 10500 and -500", x.wanted(), 100);
        x.gains(21, 0, 2);
        the.is("wanted() by 10500 and -1000", x.wanted(), 95);
        x.gains(50, 50, 0);
        x.aim(1200);
        the.is("wanted() by the most", x.wanted(), 100);
    }

    private void wantedAndTakenOut() {
        the.says("Then the wanted damper comes to the end of the row of lag,"
                + " and the first of this row is taken out of it");
        KilnKeeper x = Kilns.heating(30, 100);
        x.lag(2);
        x.go(1);
        the.isText("tell() behind a minute", Due.kiln(x), "20>30d0f100~0~10");
        x.aim(31);
        x.go(1);
        the.isText("tell() behind two", Due.kiln(x), "20>31d0f100~10~11");
        x.go(1);
        the.isText("tell() as 10 is taken out", Due.kiln(x), "25>31d10f90~11~11");
        the.says("without lag it is this itself.");
        KilnKeeper y = Kilns.heating(30, 100);
        y.go(1);
        the.isText("tell()", Due.kiln(y), "25>30d10f90");
    }

    private void damper() {
        the.says("The damper, 0 at first, moves to what was taken out, by 20 at most.");
        the.is("account(6)", new KilnKeeper().account(6), 0);
        int[][] opens = {{39, 19}, {40, 20}, {41, 20}};
        for (int[] open : opens) {
            KilnKeeper x = new KilnKeeper();
            x.aim(open[0]);
            x.go(1);
            the.is("account(6), opened by " + open[0], x.account(6), open[1]);
        }
        int[][] moves = {{20, 40}, {59, 40}, {60, 40}, {61, 41}, {79, 59}, {80, 60}, {81, 61}, {99, 79},
            {100, 80}, {101, 80}};
        for (int[] move : moves) {
            KilnKeeper x = new KilnKeeper();
            x.aim(120);
            x.go(3);
            x.aim(move[0]);
            x.go(1);
            the.is("account(6), moved from 60 by " + move[0], x.account(6), move[1]);
        }
    }

    private void burning() {
        the.says("Then it burns as much fuel as the damper tells, or all that is left");
        int[][] fuels = {{1, 1, 0}, {19, 19, 0}, {20, 20, 0}, {21, 20, 1}};
        for (int[] fuel : fuels) {
            KilnKeeper x = Kilns.heating(120, fuel[0]);
            x.go(1);
            the.is("logged(0, 3) of " + fuel[0], x.logged(0, 3), fuel[1]);
            the.is("account(7) of " + fuel[0], x.account(7), fuel[2]);
        }
        KilnKeeper none = new KilnKeeper();
        none.aim(120);
        none.go(1);
        the.is("logged(0, 3) of none", none.logged(0, 3), 0);
        the.says("the kiln becomes hotter by half of the fuel burnt");
        int[][] hotter = {{1, 20}, {2, 21}, {3, 21}, {19, 29}, {20, 30}};
        for (int[] fuel : hotter) {
            the.is("go(1) of " + fuel[0], Kilns.heating(120, fuel[0]).go(1), fuel[1]);
        }
        the.says("and loses a 25th of the degrees that it had above 20");
        int[][] colder = {{48, 44, 44}, {50, 45, 44}, {52, 46, 45}};
        for (int[] fuel : colder) {
            KilnKeeper x = new KilnKeeper();
            Kilns.heatBy(x, fuel[0]);
            the.is("account(1)", x.account(1), fuel[1]);
            the.is("go(1)", x.go(1), fuel[2]);
        }
        the.says("both at once.");
        KilnKeeper y = new KilnKeeper();
        Kilns.heatBy(y, 50);
        y.aim(1200);
        y.fuel(60);
        the.is("go(1) of 45 degrees, 30 more and 1 less", y.go(1), 74);
    }

    private void lag() {
        the.part("Lag. ");
        the.says("Lag.");
        the.says("The row of lag has as many wanted dampers as the lag tells, from 0 to 5 minutes, 0 at first.");
        KilnKeeper x = Kilns.heating(30, 1);
        the.is("lag(-1)", x.lag(-1), BAD);
        the.is("lag(6)", x.lag(6), BAD);
        the.isText("tell() of no lag", Due.kiln(x), "20>30d0f1");
        for (int lag = 1; lag <= 5; lag++) {
            the.is("lag(" + lag + ")", x.lag(lag), lag - 1);
            the.isText("tell() of " + lag, Due.kiln(x), "20>30d0f1" + "~0".repeat(lag));
        }
        for (int minutes = 1; minutes <= 5; minutes++) {
            x.go(1);
            the.isText("tell() behind " + minutes, Due.kiln(x),
                    "20>30d0f1" + "~0".repeat(5 - minutes) + "~10".repeat(minutes));
        }
    }

    private void lagToldAnew() {
        the.says("If another lag is told, and it is shorter, the first ones of the row are gone");
        String[] rows = {"", "~15", "~14~15", "~13~14~15", "~12~13~14~15"};
        for (int lag = 0; lag < 5; lag++) {
            KilnKeeper x = new KilnKeeper();
            x.lag(5);
            for (int degrees = 31; degrees <= 35; degrees++) {
                x.aim(degrees);
                x.go(1);
            }
            the.isText("tell() of 5", Due.kiln(x), "20>35d0f0~11~12~13~14~15");
            the.is("lag(" + lag + ")", x.lag(lag), 5);
            the.isText("tell() of " + lag, Due.kiln(x), "20>35d0f0" + rows[lag]);
        }
        the.says("if it is longer, the damper as it is now comes ahead of the row, as often as needed.");
        for (int lag = 2; lag <= 5; lag++) {
            KilnKeeper x = new KilnKeeper();
            x.aim(37);
            x.go(1);
            x.lag(1);
            x.aim(32);
            x.go(1);
            the.is("lag(" + lag + ")", x.lag(lag), 1);
            the.isText("tell() of " + lag, Due.kiln(x), "20>32d17f0" + "~17".repeat(lag - 1) + "~12");
            x.go(lag - 1);
            the.is("account(6) by those ahead", x.account(6), 17);
            x.go(1);
            the.is("account(6) by the one behind", x.account(6), 12);
        }
    }

    private void overshooting() {
        the.part("Overshooting. ");
        the.says("Overshooting.");
        the.says("The kiln overshoots by the most degrees above those at which it aims");
        KilnKeeper x = Kilns.heating(29, 20);
        x.gains(50, 0, 0);
        x.go(1);
        the.is("account(9) a degree above", x.account(9), 1);
        KilnKeeper y = Kilns.heating(30, 82);
        y.lag(3);
        y.aim(1200);
        y.go(3);
        y.aim(30);
        y.go(3);
        the.is("account(9) of 60 degrees", y.account(9), 30);
        y.go(10);
        the.is("account(1) later", y.account(1), 50);
        the.is("account(9) later", y.account(9), 30);
        the.says("that it had behind any minute since this was told");
        y.aim(40);
        the.is("account(9) ahead of a minute", y.account(9), 0);
        y.go(1);
        the.is("account(9) of 49 degrees", y.account(9), 9);
        y.go(1);
        the.is("account(9) of 48 degrees", y.account(9), 9);
        the.says("0 without any.");
        the.is("account(9) of a new one", new KilnKeeper().account(9), 0);
        KilnKeeper z = Kilns.heating(31, 20);
        z.gains(50, 0, 0);
        z.go(1);
        the.is("account(9) a degree below", z.account(9), 0);
        z.aim(30);
        z.go(1);
        the.is("account(9) at the degrees", z.account(9), 0);
    }

    private void settling() {
        the.says("It settles as soon as it was at most 5 degrees off for 10 minutes, one behind the other.");
        int[][] off = {{25, 10}, {26, NOTHING}};
        for (int[] aim : off) {
            KilnKeeper x = new KilnKeeper();
            x.aim(aim[0]);
            the.is("settlesIn() below " + aim[0], x.settlesIn(), aim[1]);
        }
        KilnKeeper x = new KilnKeeper();
        Kilns.heatBy(x, 48);
        x.aim(39);
        the.is("settlesIn() 5 above", x.settlesIn(), 10);
        x.aim(38);
        the.is("settlesIn() 6 above", x.settlesIn(), NOTHING);
        // It cools by 76, 74, 72, 70, 68 and then by one degree a minute.
        KilnKeeper y = Kilns.heating(1200, 118);
        y.go(3);
        the.is("account(1)", y.account(1), 78);
        y.aim(65);
        the.is("settlesIn() of 10 minutes from 70 to 60", y.settlesIn(), 13);
        y.aim(66);
        the.is("settlesIn() of 9 minutes from 70 to 61", y.settlesIn(), NOTHING);
        // It is near in the second minute, and then not before it has cooled from 78 to 60.
        KilnKeeper z = new KilnKeeper();
        z.lag(5);
        z.aim(1200);
        z.go(5);
        z.aim(55);
        z.fuel(118);
        the.is("degreesIn(2)", z.degreesIn(2), 50);
        the.is("degreesIn(3)", z.degreesIn(3), 78);
        the.is("degreesIn(16)", z.degreesIn(16), 60);
        the.is("settlesIn() of minutes one behind the other", z.settlesIn(), 25);
    }

    public static void main(String[] args) throws Exception {
        Sentences the = new Sentences();
        TermsOfHeatTest test = new TermsOfHeatTest(the);
        test.numbers();
        test.aiming();
        test.gains();
        test.sumAndCap();
        test.errorsOfAMinute();
        test.wantedDamper();
        test.wantedAndTakenOut();
        test.damper();
        test.burning();
        test.lag();
        test.lagToldAnew();
        test.overshooting();
        test.settling();
        the.end();
    }
}
