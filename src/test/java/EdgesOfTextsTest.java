/** Promises 23 to 27, sentence by sentence. */
public final class EdgesOfTextsTest {
    private static final int NONE = KilnKeeper.NONE;
    private static final int BAD = KilnKeeper.BAD;
    private static final int FULL = KilnKeeper.FULL;
    private static final int REFUSED = KilnKeeper.REFUSED;
    private static final int NOTHING = KilnKeeper.NOTHING;

    private final Sentences the;

    private EdgesOfTextsTest(Sentences the) {
        this.the = the;
    }

    private void append() {
        the.part("## Promise 23: append");
        the.says("Appends a character to the text.");
        KilnKeeper x = new KilnKeeper();
        for (int code : new int[] {'g', 'o', ' ', '7'}) {
            x.append(code);
        }
        the.is("run()", x.run(), 1);
        the.is("account(0)", x.account(0), 7);
        the.says("the code of the character, 32 to 126");
        the.is("append(32)", x.append(32), 1);
        the.is("append(126)", x.append(126), 2);
        the.says("Returns the length of the text");
        for (int length = 3; length <= 60; length++) {
            the.is("append(33)", x.append(33), length);
        }
        the.says("BAD if the code is out of range");
        KilnKeeper y = new KilnKeeper();
        the.isOutside("append", y::append, 32, 126, BAD);
        the.is("append(65536 + 103)", y.append(65536 + 'g'), BAD);
        the.is("append(256 + 103)", y.append(256 + 'g'), BAD);
        the.is("account(16)", y.account(16), 0);
        the.isOutside("append to a full text", x::append, 32, 126, BAD);
        the.says("FULL if the text has 60 characters.");
        the.is("append(33), the 61st", x.append(33), FULL);
        the.is("append(33), the 61st again", x.append(33), FULL);
        the.is("account(16)", x.account(16), 60);
        the.is("run() of all 60", x.run(), -20000);
        the.is("append(33) behind run()", x.append(33), 1);
    }

    private void run() {
        the.part("## Promise 24: run");
        the.says("Reads the text as orders and carries them out, all or none.");
        KilnKeeper x = new KilnKeeper();
        Due.run(x, "aim 40;gain 5 6 7;cap 90;lag 1;fuel 80;pot 2 300 4;put 0");
        the.isText("tell()", Due.kiln(x), "20>40d0f80~0");
        the.is("potOf(0, 3)", x.potOf(0, 3), 1);
        the.is("account(17)", x.account(17), 1);
        Due.run(x, "take 0;go 2");
        the.is("potOf(0, 3)", x.potOf(0, 3), 0);
        the.is("account(0)", x.account(0), 2);
        String before = Kilns.all(x);
        Due.run(x, "fuel 1;go 9;aim 50;put 1");
        the.isText("all behind what is refused", Kilns.all(x), before);
        Due.run(x, "fuel 1;go 9;aim 50;put");
        the.isText("all behind what is wrong", Kilns.all(x), before);
        the.says("Returns how many orders");
        the.is("run() of one", Due.run(x, "go 1"), 1);
        StringBuilder text = new StringBuilder("go 1");
        for (int orders = 2; orders <= 12; orders++) {
            the.is("run() of " + orders, Due.run(x, text.append(";go 1").toString()), orders);
            the.is("account(16)", x.account(16), 0);
        }
        the.is("run() of 60 characters", Due.run(x, text + "0"), 12);
        the.is("account(16)", x.account(16), 0);
        the.says("-20000 minus the fault position if the text is wrong");
        the.is("run() of no text", x.run(), -20000);
        the.is("run() of no text again", x.run(), -20000);
        the.is("run() of \"x\"", Due.run(x, "x"), -20000);
        the.is("run() of \"go 1;\"", Due.run(x, "go 1;"), -20005);
        the.is("run() of 12 orders and \";\"", Due.run(x, text + ";"), -20060);
        the.is("run() of 12 orders and \"x\"", Due.run(x, text + "x"), -20059);
        the.is("run() of a fault behind what is refused", Due.run(x, "go 0;go 1x"), -20009);
        the.is("reason(false)", new KilnKeeper().reason(false), NOTHING);
        the.is("account(16)", x.account(16), 0);
        the.says("REFUSED for the reason 6.");
        refusals();
    }

    private void refusals() {
        String[] orders = {"aim 19", "aim 1201", "aim 20", "aim 9999", "aim 0", "gain 51 0 0", "gain 0 51 0", "gain 0 0 51",
            "gain 99 99 99", "cap 9001", "cap 9999", "cap 2000", "lag 6", "lag 9", "lag 0", "pot 0 100 1",
            "pot 61 100 1", "pot 1 99 1", "pot 1 1201 1", "pot 1 100 0", "put 0", "put 9", "take 0", "take 9",
            "fuel 0", "fuel 0000", "go 0", "go 000", "go 301", "go 999"};
        for (String order : orders) {
            KilnKeeper x = new KilnKeeper();
            the.is("run() of " + order, Due.run(x, order), REFUSED);
            the.is("its reason", Due.reason(x), 600);
            the.is("run() of it behind others", Due.run(x, "fuel 1;fuel 2;" + order + ";" + order), REFUSED);
            the.is("its reason", Due.reason(x), 602);
            the.is("account(16)", x.account(16), 0);
            the.is("account(8)", x.account(8), 0);
        }
        KilnKeeper y = Kilns.withPots(8);
        the.is("run() of a ninth pot", Due.run(y, "pot 1 100 1"), REFUSED);
        the.is("its reason", Due.reason(y), 600);
        the.is("run() of a fifth put", Due.run(y, "put 7;put 6;put 5;put 4;put 3"), REFUSED);
        the.is("its reason", Due.reason(y), 604);
        the.is("account(15)", y.account(15), 0);
        the.is("run() of put at 61 degrees", Due.run(y, "fuel 84;aim 1200;go 3;put 0"), REFUSED);
        the.is("its reason", Due.reason(y), 603);
        the.is("run() of put at 60 degrees", Due.run(y, "fuel 82;aim 1200;go 3;put 0"), 4);
        the.is("run() of put again", Due.run(y, "put 0"), REFUSED);
        the.is("its reason", Due.reason(y), 600);
    }

    private void tell() {
        the.part("## Promise 25: tell");
        the.says("Writes the kiln, in place of the line before");
        KilnKeeper x = Kilns.heating(1200, 846);
        x.pot(60, 1200, 99);
        x.tellPot(0);
        the.isText("the line", Due.line(x), "0!60^1200*0/99w");
        x.tell();
        the.isText("the line", Due.line(x), "20>1200d0f846");
        the.is("character(13)", x.character(13), NONE);
        the.says("its degrees, \">\", those at which it aims, \"d\" and the damper, \"f\" and the fuel");
        the.is("go(11)", x.go(11), 380);
        the.isText("tell()", Due.kiln(x), "380>1200d100f0");
        the.says("and, for each minute of lag in the row of lag, the first one first, \"~\" and the damper");
        x.lag(2);
        the.isText("tell()", Due.kiln(x), "380>1200d100f0~100~100");
        x.aim(20);
        x.go(1);
        the.isText("tell()", Due.kiln(x), "366>20d100f0~100~0");
        x.aim(1200);
        x.go(1);
        the.isText("tell()", Due.kiln(x), "353>1200d100f0~0~100");
        the.says("as in \"340>900d80f1200~100~95\".");
        x.gains(2, 0, 0);
        x.aim(828);
        x.go(1);
        x.aim(900);
        x.fuel(1200);
        the.isText("tell()", Due.kiln(x), "340>900d80f1200~100~95");
        the.says("Returns the length of the line.");
        the.is("tell()", x.tell(), 22);
        the.is("tell() again", x.tell(), 22);
        the.is("tell() of a new one", new KilnKeeper().tell(), 9);
    }

    private void tellPot() {
        the.part("## Promise 26: tellPot");
        the.says("Writes a pot, in place of the line before");
        KilnKeeper x = Kilns.firedAndCracked();
        x.tell();
        x.tellPot(5);
        the.isText("the line", Due.line(x), "5!60^1000*0/2w");
        the.says("its number, \"!\" and its shock, \"^\" and the degrees that it needs, \"*\", the minutes that it"
                + " soaked so far, \"/\", and those for which it needs them");
        x.pot(1, 1200, 99);
        x.tellPot(6);
        the.isText("the line", Due.line(x), "6!1^1200*0/99w");
        the.says("and \"w\" as it waits, \"k\" as it is in the kiln, \"f\" as it is fired, or \"x\" as it is cracked");
        x.put(2);
        String[] lines = {"0!60^100*2/2f", "1!5^100*0/2x", "2!60^1000*0/2k", "3!60^1000*0/2w"};
        for (int pot = 0; pot < lines.length; pot++) {
            x.tellPot(pot);
            the.isText("tellPot(" + pot + ")", Due.line(x), lines[pot]);
        }
        x.take(0);
        x.take(1);
        x.take(2);
        String[] taken = {lines[0], lines[1], "2!60^1000*0/2w"};
        for (int pot = 0; pot < taken.length; pot++) {
            x.tellPot(pot);
            the.isText("tellPot(" + pot + ") behind take()", Due.line(x), taken[pot]);
        }
        the.says("as in \"2!20^900*12/30k\".");
        KilnKeeper slow = Kilns.withPots(2);
        slow.pot(20, 900, 30);
        slow.put(2);
        slow.fuel(9999);
        slow.fuel(9999);
        slow.aim(1200);
        slow.gains(0, 10, 0);
        slow.cap(400);
        slow.go(100);
        slow.cap(750);
        slow.go(slow.firedIn(2) - 18);
        the.is("tellPot(2)", slow.tellPot(2), 15);
        the.isText("the line", Due.line(slow), "2!20^900*12/30k");
        the.says("Returns the length of the line");
        the.is("tellPot(6)", x.tellPot(6), 14);
        the.is("tellPot(0)", x.tellPot(0), 13);
        the.is("tellPot(1)", x.tellPot(1), 12);
        the.says("NONE if there is no such pot.");
        the.isOutside("tellPot", x::tellPot, 0, 6, NONE);
        the.isText("the line, which stays", Due.line(x), "1!5^100*0/2x");
        the.is("tellPot(0) without pots", new KilnKeeper().tellPot(0), NONE);
    }

    private void character() {
        the.part("## Promise 27: character");
        the.says("Returns a character of the line, which is empty at first.");
        KilnKeeper x = new KilnKeeper();
        the.is("character(0) at first", x.character(0), NONE);
        the.says("the index, from 0");
        x.tell();
        the.is("character(0)", x.character(0), '2');
        the.is("character(-1)", x.character(-1), NONE);
        the.says("Returns the code of the character");
        int[] codes = {'2', '0', '>', '2', '0', 'd', '0', 'f', '0'};
        for (int index = 0; index < codes.length; index++) {
            the.is("character(" + index + ")", x.character(index), codes[index]);
        }
        x.pot(1, 100, 1);
        x.tellPot(0);
        int[] signs = {'0', '!', '1', '^', '1', '0', '0', '*', '0', '/', '1', 'w'};
        for (int index = 0; index < signs.length; index++) {
            the.is("character(" + index + ")", x.character(index), signs[index]);
        }
        the.says("NONE if there is none.");
        the.isOutside("character", x::character, 0, 11, NONE);
        x.tell();
        the.isOutside("character of a shorter line", x::character, 0, 8, NONE);
    }

    public static void main(String[] args) throws Exception {
        Sentences the = new Sentences();
        EdgesOfTextsTest test = new EdgesOfTextsTest(the);
        test.append();
        test.run();
        test.tell();
        test.tellPot();
        test.character();
        the.end();
    }
}
