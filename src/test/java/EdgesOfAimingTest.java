/** Promises 1 to 7, sentence by sentence. */
public final class EdgesOfAimingTest {
    private static final int NONE = KilnKeeper.NONE;
    private static final int BAD = KilnKeeper.BAD;
    private static final int REFUSED = KilnKeeper.REFUSED;

    private final Sentences the;

    private EdgesOfAimingTest(Sentences the) {
        this.the = the;
    }

    private void newObject() {
        the.part("## Promise 1: A new object");
        the.says("Creates a cold kiln without fuel and pots.");
        KilnKeeper x = new KilnKeeper();
        the.is("account(1)", x.account(1), 20);
        the.is("account(7)", x.account(7), 0);
        the.is("account(8)", x.account(8), 0);
        the.is("account(10)", x.account(10), 0);
        the.is("ranked(0)", x.ranked(0), NONE);
        x.go(300);
        x.fuel(9999);
        x.pot(60, 100, 1);
        the.is("account(1) of another one", new KilnKeeper().account(1), 20);
        the.is("account(0) of another one", new KilnKeeper().account(0), 0);
        the.is("account(7) of another one", new KilnKeeper().account(7), 0);
        the.is("account(10) of another one", new KilnKeeper().account(10), 0);
    }

    private void aim() {
        the.part("## Promise 2: aim");
        the.says("Tells at which degrees the kiln aims.");
        KilnKeeper x = new KilnKeeper();
        x.aim(1200);
        the.is("account(2)", x.account(2), 1200);
        x.aim(20);
        the.is("account(2)", x.account(2), 20);
        the.says("Returns those before");
        the.is("aim(21)", x.aim(21), 20);
        the.is("aim(1199)", x.aim(1199), 21);
        the.is("aim(1200)", x.aim(1200), 1199);
        the.is("aim(20)", x.aim(20), 1200);
        the.says("BAD if they are out of range");
        the.isOutside("aim", x::aim, 20, 1200, BAD);
        the.is("account(2)", x.account(2), 20);
        the.says("REFUSED for the reason 5.");
        KilnKeeper y = new KilnKeeper();
        the.is("aim(20)", y.aim(20), REFUSED);
        the.is("its reason", Due.reason(y), 520);
        y.aim(1200);
        the.is("aim(1200)", y.aim(1200), REFUSED);
        the.is("its reason", Due.reason(y), 1700);
        the.is("account(17)", y.account(17), 1);
        KilnKeeper above = Kilns.heating(29, 20);
        above.gains(50, 0, 0);
        above.go(1);
        above.aim(29);
        the.is("account(9) behind what is refused", above.account(9), 1);
    }

    private void gains() {
        the.part("## Promise 3: gains");
        the.says("Tells the gains.");
        KilnKeeper x = new KilnKeeper();
        x.aim(25);
        x.gains(50, 0, 0);
        the.is("wanted()", x.wanted(), 25);
        x.gains(0, 0, 50);
        the.is("wanted()", x.wanted(), 25);
        x.gains(0, 40, 0);
        the.is("wanted()", x.wanted(), 2);
        x.gains(0, 0, 0);
        the.is("wanted()", x.wanted(), 0);
        the.says("Returns 10000 times the first one before, 100 times the second one, and the third one, together");
        KilnKeeper y = new KilnKeeper();
        the.is("gains(0, 0, 1)", y.gains(0, 0, 1), 100000);
        the.is("gains(0, 1, 0)", y.gains(0, 1, 0), 1);
        the.is("gains(1, 0, 0)", y.gains(1, 0, 0), 100);
        the.is("gains(49, 48, 47)", y.gains(49, 48, 47), 10000);
        the.is("gains(50, 50, 50)", y.gains(50, 50, 50), 494847);
        the.is("gains(50, 50, 50) again", y.gains(50, 50, 50), 505050);
        the.is("gains(0, 0, 0)", y.gains(0, 0, 0), 505050);
        the.is("gains(10, 0, 0)", y.gains(10, 0, 0), 0);
        the.says("BAD if one is out of range.");
        the.isOutside("the first gain", gain -> y.gains(gain, 1, 2), 0, 50, BAD);
        the.isOutside("the second gain", gain -> y.gains(1, gain, 2), 0, 50, BAD);
        the.isOutside("the third gain", gain -> y.gains(1, 2, gain), 0, 50, BAD);
        the.isOutside("all three", gain -> y.gains(gain, gain, gain), 0, 50, BAD);
        the.is("gains(0, 0, 0)", y.gains(0, 0, 0), 100000);
    }

    private void cap() {
        the.part("## Promise 4: cap");
        the.says("Tells the cap");
        KilnKeeper x = new KilnKeeper();
        x.cap(7);
        x.aim(1200);
        x.go(1);
        the.is("account(4)", x.account(4), 7);
        the.says("the sum is within it at once.");
        KilnKeeper y = new KilnKeeper();
        y.aim(120);
        y.go(1);
        y.cap(101);
        the.is("account(4) by a cap of 101", y.account(4), 100);
        y.cap(100);
        the.is("account(4) by a cap of 100", y.account(4), 100);
        y.cap(99);
        the.is("account(4) by a cap of 99", y.account(4), 99);
        y.cap(9000);
        the.is("account(4) stays", y.account(4), 99);
        y.cap(0);
        the.is("account(4) by a cap of 0", y.account(4), 0);
        KilnKeeper below = new KilnKeeper();
        Kilns.heatBy(below, 48);
        below.cap(0);
        below.cap(2000);
        below.go(1);
        the.is("account(4) below 0", below.account(4), -24);
        below.cap(24);
        the.is("account(4) by a cap of 24", below.account(4), -24);
        below.cap(23);
        the.is("account(4) by a cap of 23", below.account(4), -23);
        the.says("Returns the cap before");
        KilnKeeper z = new KilnKeeper();
        the.is("cap(9000)", z.cap(9000), 2000);
        the.is("cap(0)", z.cap(0), 9000);
        the.is("cap(1)", z.cap(1), 0);
        the.is("cap(2000)", z.cap(2000), 1);
        the.says("BAD if it is out of range");
        the.isOutside("cap", z::cap, 0, 9000, BAD);
        the.is("account(17)", z.account(17), 4);
        the.says("REFUSED for the reason 5.");
        the.is("cap(2000)", z.cap(2000), REFUSED);
        the.is("its reason", Due.reason(z), 2500);
        z.cap(0);
        the.is("cap(0)", z.cap(0), REFUSED);
        the.is("its reason", Due.reason(z), 500);
        z.cap(9000);
        the.is("cap(9000)", z.cap(9000), REFUSED);
        the.is("its reason", Due.reason(z), 9500);
    }

    private void lag() {
        the.part("## Promise 5: lag");
        the.says("Tells the lag.");
        for (int lag = 1; lag <= 5; lag++) {
            KilnKeeper x = Kilns.heating(1200, 100);
            x.lag(lag);
            x.go(lag);
            the.is("account(6) by a lag of " + lag, x.account(6), 0);
            x.go(1);
            the.is("account(6) a minute later", x.account(6), 20);
        }
        the.says("Returns the lag before");
        KilnKeeper y = new KilnKeeper();
        int[] lags = {5, 0, 1, 4, 3, 2, 0};
        int before = 0;
        for (int lag : lags) {
            the.is("lag(" + lag + ")", y.lag(lag), before);
            before = lag;
        }
        the.says("BAD if it is out of range");
        the.isOutside("lag", y::lag, 0, 5, BAD);
        the.isText("tell()", Due.kiln(y), "20>20d0f0");
        the.says("REFUSED for the reason 5.");
        the.is("lag(0)", y.lag(0), REFUSED);
        the.is("its reason", Due.reason(y), 500);
        y.lag(5);
        the.is("lag(5)", y.lag(5), REFUSED);
        the.is("its reason", Due.reason(y), 505);
        the.isText("tell()", Due.kiln(y), "20>20d0f0~0~0~0~0~0");
    }

    private void fuel() {
        the.part("## Promise 6: fuel");
        the.says("Lets fuel come.");
        KilnKeeper x = new KilnKeeper();
        x.fuel(3);
        the.is("account(7)", x.account(7), 3);
        the.is("account(8)", x.account(8), 3);
        the.says("how much, 1 to 9999");
        the.is("fuel(1)", x.fuel(1), 4);
        the.is("fuel(9999)", x.fuel(9999), 10003);
        the.says("Returns how much there is then");
        x.aim(1200);
        x.go(1);
        the.is("fuel(1) behind a minute", x.fuel(1), 9984);
        KilnKeeper much = new KilnKeeper();
        for (int times = 1; times <= 512; times++) {
            the.is("fuel(9999), " + times + " times", much.fuel(9999), 9999 * times);
        }
        the.says("BAD if the number is out of range.");
        the.isOutside("fuel", x::fuel, 1, 9999, BAD);
        the.is("account(7)", x.account(7), 9984);
        the.is("account(8)", x.account(8), 10004);
    }

    private void go() {
        the.part("## Promise 7: go");
        the.says("Lets minutes go by.");
        KilnKeeper x = new KilnKeeper();
        x.go(7);
        the.is("account(0)", x.account(0), 7);
        the.says("how many, 1 to 300");
        x.go(1);
        the.is("account(0)", x.account(0), 8);
        x.go(300);
        the.is("account(0)", x.account(0), 308);
        the.says("Returns the degrees then");
        KilnKeeper y = Kilns.heating(1200, 120);
        the.is("go(1)", y.go(1), 30);
        the.is("go(2)", y.go(2), 79);
        the.is("go(300)", y.go(300), 44);
        the.says("BAD if the number is out of range.");
        the.isOutside("go", x::go, 1, 300, BAD);
        the.is("account(0)", x.account(0), 308);
    }

    public static void main(String[] args) throws Exception {
        Sentences the = new Sentences();
        EdgesOfAimingTest test = new EdgesOfAimingTest(the);
        test.newObject();
        test.aim();
        test.gains();
        test.cap();
        test.lag();
        test.fuel();
        test.go();
        the.end();
    }
}
