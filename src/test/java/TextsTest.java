/** Promises 23 to 27: append, run, tell, tellPot and character. */
public final class TextsTest {
    private static final int BAD = KilnKeeper.BAD;
    private static final int FULL = KilnKeeper.FULL;
    private static final int REFUSED = KilnKeeper.REFUSED;
    private static final int NOTHING = KilnKeeper.NOTHING;
    private static final int NONE = KilnKeeper.NONE;

    private final Due due = new Due();

    private void promise23Append() {
        KilnKeeper x = new KilnKeeper();
        due.is("23: append(31)", x.append(31), BAD);
        due.is("23: append(127)", x.append(127), BAD);
        due.is("23: append(-1)", x.append(-1), BAD);
        due.is("23: append(65569)", x.append(65569), BAD);
        due.is("23: no text", x.account(16), 0);
        for (int length = 1; length <= 60; length++) {
            due.is("23: append", x.append(length % 2 == 0 ? 32 : 126), length);
        }
        due.is("23: a 61st", x.append(65), FULL);
        due.is("23: BAD ahead of FULL", x.append(127), BAD);
        due.is("23: characters", x.account(16), 60);
        due.is("23: no change", x.account(17), 0);
    }

    private void isAnswer(String text, int answer) {
        KilnKeeper x = new KilnKeeper();
        due.is("24: run() of \"" + text + "\"", Due.run(x, text), answer);
        due.is("24: text behind it", x.account(16), 0);
        if (answer < 0) {
            due.is("24: changes behind it", x.account(17), 0);
        }
    }

    private void promise24WrongTexts() {
        String[] wrong = {"|", "|;", "|x", "| aim 30", "a|", "a|m", "ai|", "aim|", "aim|3", "aim |", "aim |x", "aim | 3", "aim 30|x", "aim 30| ", "aim 0030|0", "aim 30;|",
            "aim 30;|;", "aim 30;| go 1", "aim 30;g|", "|Aim 30",
            "g|", "g|x", "ga|", "ga|o", "go|", "go|a", "gai|", "gain|", "gain |", "gain 1|", "gain 1 |",
            "gain 1 2|", "gain 1 2 |", "gain 1 2 | ", "gain 10|0 2 3", "gain 1 10|0 3", "gain 1|;",
            "gain 1 2|;", "gain 1 2 3| ", "gain 1 2 34|5", "gain 1 | 2 3", "gain |-1 2 3",
            "c|", "ca|", "ca|n 1", "cap|", "cap |", "cap 1234|5", "cap 12|a",
            "l|", "la|", "lag|", "lag |", "lag 1|0", "lag 1| ", "lag |;",
            "p|", "p|a", "po|", "pot|", "po|x", "pot |", "pot 1|", "pot 1 |", "pot 1 100|",
            "pot 1 100 |", "pot 12|3 100 1", "pot 1 1000|0 1", "pot 1 100 12|3", "pot 1 100|;",
            "pot 1 100 1| ", "pu|", "pu|x", "put|", "put |", "put 1|1", "put |x",
            "t|", "ta|", "tak|", "take|", "take |", "take 1|2", "ta|g 1",
            "f|", "fu|", "fue|", "fuel|", "fuel |", "fuel 1234|5", "fuel 1|.", "fu|l 1",
            "go |", "go 300|0", "go 1|x", "go 1;go 1;go 1|,", "go 1;go 1;|", "go 1;pot 1 100|",
            "go|1", "go |/", "go |:", "go 1|/", "go 1|:",
            "go 1;go 1;go 1;go 1;go 1;go 1;go 1;go 1;go 1;go 1;go 1;go 1;|"};
        for (String marked : wrong) {
            int fault = marked.indexOf('|');
            isAnswer(marked.substring(0, fault) + marked.substring(fault + 1), -20000 - fault);
        }
    }

    private void promise24Texts() {
        isAnswer("aim 30", 1);
        isAnswer("aim 0030", 1);
        isAnswer("aim 1200", 1);
        isAnswer("gain 0 0 0", 1);
        isAnswer("gain 50 50 50", 1);
        isAnswer("gain 01 2 03", 1);
        isAnswer("cap 0", 1);
        isAnswer("cap 9000", 1);
        isAnswer("lag 5", 1);
        isAnswer("pot 1 100 1", 1);
        isAnswer("pot 60 1200 99;put 0;take 0", 3);
        isAnswer("fuel 1", 1);
        isAnswer("fuel 9999", 1);
        isAnswer("go 1", 1);
        isAnswer("go 300", 1);
        isAnswer("go 001;go 02", 2);
        isAnswer("go 1;go 1;go 1;go 1;go 1;go 1;go 1;go 1;go 1;go 1;go 1;go 1", 12);
    }

    private void isRefused(String text, int number) {
        KilnKeeper x = new KilnKeeper();
        due.is("24: run() of \"" + text + "\"", Due.run(x, text), REFUSED);
        due.is("24: its reason", Due.reason(x), 600 + number);
        due.is("24: text behind it", x.account(16), 0);
        due.is("24: nothing is changed", x.account(17) + x.account(0) + x.account(8) + x.account(10), 0);
        due.isText("24: the kiln behind it", Due.kiln(x), "20>20d0f0");
    }

    private void promise24Refused() {
        isRefused("aim 19", 0);
        isRefused("aim 1201", 0);
        isRefused("aim 20", 0);
        isRefused("aim 30;aim 30", 1);
        isRefused("gain 51 0 0", 0);
        isRefused("gain 0 51 0", 0);
        isRefused("gain 0 0 51", 0);
        isRefused("cap 9001", 0);
        isRefused("cap 2000", 0);
        isRefused("lag 6", 0);
        isRefused("lag 0", 0);
        isRefused("pot 0 100 1", 0);
        isRefused("pot 61 100 1", 0);
        isRefused("pot 1 99 1", 0);
        isRefused("pot 1 100 0", 0);
        isRefused("put 0", 0);
        isRefused("take 0", 0);
        isRefused("fuel 0", 0);
        isRefused("go 0", 0);
        isRefused("go 301", 0);
        isRefused("fuel 900;aim 900;lag 2;pot 9 900 9;put 0;go 20;take 0;go 1", 6);
    }

    private void promise24CarriesOut() {
        KilnKeeper x = new KilnKeeper();
        due.is("24: orders", Due.run(x, "aim 40;gain 5 6 7;cap 90;lag 1;fuel 80;pot 2 300 4"), 6);
        due.is("24: one change", x.account(17), 1);
        due.isText("24: the kiln", Due.kiln(x), "20>40d0f80~0");
        x.tellPot(0);
        due.isText("24: the pot", Due.line(x), "0!2^300*0/4w");
        due.is("24: gains", x.gains(5, 6, 7), 50607);
        due.is("24: cap", x.cap(91), 90);
        due.is("24: go", Due.run(x, "put 0;go 2"), 2);
        due.is("24: minutes", x.account(0), 2);
        due.is("24: the sum of 20 and 20", x.account(4), 40);
        due.is("24: the pot cracked by 10 degrees", x.potOf(0, 3), 3);
        due.is("24: take", Due.run(x, "take 0"), 1);
        due.is("24: none within", x.account(15), 0);
        due.is("24: no reason", x.reason(false), NOTHING);
    }

    private void promise24Reasons() {
        KilnKeeper x = new KilnKeeper();
        x.put(0);
        x.cap(2000);
        due.is("24: the reason before", Due.reason(x), 2500);
        Due.run(x, "go 1");
        due.is("24: success keeps it", Due.reason(x), 2500);
        Due.run(x, "go 1x");
        due.is("24: a wrong text keeps it", Due.reason(x), 2500);
        Due.run(x, "go 1;cap 2000;go 0");
        due.is("24: a refused order", Due.reason(x), 601);
        due.is("24: undo()", x.undo(), 0);
        due.is("24: the reason is not undone", Due.reason(x), 601);
    }

    private void promise25Tell() {
        KilnKeeper x = new KilnKeeper();
        due.is("25: tell()", x.tell(), 9);
        due.isText("25: the line", Due.line(x), "20>20d0f0");
        x.fuel(9999);
        x.aim(1200);
        x.lag(2);
        due.isText("25: with lag", Due.kiln(x), "20>1200d0f9999~0~0");
        x.gains(1, 0, 0);
        x.go(1);
        x.aim(970);
        x.go(1);
        due.isText("25: the first one first", Due.kiln(x), "20>970d0f9999~100~95");
        x.go(1);
        x.lag(0);
        due.isText("25: without lag again", Due.kiln(x), "30>970d20f9979");
        due.is("25: tell()", x.tell(), 14);
        due.is("25: changes", x.account(17), 8);
    }

    private void promise26TellPot() {
        KilnKeeper x = new KilnKeeper();
        due.is("26: tellPot(0)", x.tellPot(0), NONE);
        x.pot(60, 100, 2);
        x.pot(5, 1200, 99);
        due.is("26: tellPot(1)", x.tellPot(1), 14);
        due.isText("26: it waits", Due.line(x), "1!5^1200*0/99w");
        due.is("26: tellPot(2)", x.tellPot(2), NONE);
        due.is("26: tellPot(-1)", x.tellPot(-1), NONE);
        due.isText("26: the line stays", Due.line(x), "1!5^1200*0/99w");
        x.put(0);
        x.put(1);
        x.tellPot(0);
        due.isText("26: in the kiln", Due.line(x), "0!60^100*0/2k");
        x.fuel(9999);
        x.aim(120);
        x.go(30);
        x.tellPot(0);
        due.isText("26: fired", Due.line(x), "0!60^100*2/2f");
        due.is("26: tellPot(1)", x.tellPot(1), 14);
        due.isText("26: cracked", Due.line(x), "1!5^1200*0/99x");
        x.undo();
        due.isText("26: the line is not undone", Due.line(x), "1!5^1200*0/99x");
    }

    private void promise27Character() {
        KilnKeeper x = new KilnKeeper();
        due.is("27: no line", x.character(0), NONE);
        due.is("27: tell()", x.tell(), 9);
        due.is("27: character(-1)", x.character(-1), NONE);
        due.is("27: character(0)", x.character(0), '2');
        due.is("27: character(2)", x.character(2), '>');
        due.is("27: character(8)", x.character(8), '0');
        due.is("27: character(9)", x.character(9), NONE);
        due.is("27: character(most)", x.character(Integer.MAX_VALUE), NONE);
        due.is("27: character(least)", x.character(Integer.MIN_VALUE), NONE);
        x.save();
        x.lag(5);
        x.tell();
        x.restore();
        due.isText("27: the line is not restored", Due.line(x), "20>20d0f0~0~0~0~0~0");
        x.tell();
        due.isText("27: a shorter line", Due.line(x), "20>20d0f0");
    }

    public static void main(String[] args) {
        TextsTest test = new TextsTest();
        test.promise23Append();
        test.promise24WrongTexts();
        test.promise24Texts();
        test.promise24Refused();
        test.promise24CarriesOut();
        test.promise24Reasons();
        test.promise25Tell();
        test.promise26TellPot();
        test.promise27Character();
        test.due.end();
    }
}
