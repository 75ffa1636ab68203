/** A keeper of a kiln who aims at a heat; ../shared/DOC.md says what each call promises. */
public final class KilnKeeper {
    public static final int NONE = -10001;
    public static final int BAD = -10002;
    public static final int FULL = -10003;
    public static final int REFUSED = -10004;
    public static final int NOTHING = -10005;

    private static final int WRONG_TEXT = -20000;

    private static final int COLDEST = 20;
    private static final int HIGHEST_AIM = 1200;
    private static final int MOST_GAIN = 50;
    private static final int MOST_CAP = 9000;
    private static final int MOST_LAG = 5;
    private static final int MOST_FUEL = 9999;
    private static final int MOST_MINUTES = 300;
    private static final int MOST_DAMPER = 100;
    private static final int DAMPER_STEP = 20;
    private static final int LOSS_SHARE = 25;
    private static final int TOUCHABLE_DEGREES = 60;
    private static final int SETTLED_DEGREES = 5;
    private static final int SETTLED_MINUTES = 10;

    private static final int MOST_POTS = 8;
    private static final int MOST_WITHIN = 4;
    private static final int MOST_SHOCK = 60;
    private static final int LEAST_NEEDED = 100;
    private static final int MOST_NEEDED = 1200;
    private static final int MOST_SOAKING = 99;
    private static final int MOST_HEAT_TOO_MUCH = 80;

    private static final int WAITS = 0;
    private static final int IN_KILN = 1;
    private static final int FIRED = 2;
    private static final int CRACKED = 3;

    private static final int NO_ROOM = 1;
    private static final int NOT_WAITING = 2;
    private static final int NOT_WITHIN = 3;
    private static final int TOO_HOT = 4;
    private static final int SO_ALREADY = 5;
    private static final int ORDER_FAILS = 6;

    private static final int LOG_PLACES = 12;
    private static final int LOG_NUMBERS = 4;
    private static final int MOST_CHANGES = 8;
    private static final int MOST_TEXT = 60;
    private static final int LEAST_CODE = 32;
    private static final int MOST_CODE = 126;
    /** The shortest order and its ";" have 5 characters, so 60 hold no more than this. */
    private static final int MOST_ORDERS = 12;
    private static final int MOST_ORDER_NUMBERS = 3;

    private static final Word[] WORDS = Word.values();

    private final Kiln kiln = new Kiln();
    /** Within a change it is the kiln as it was; between changes, what comes is tried in it. */
    private final Kiln spare = new Kiln();
    private final Kiln snapshot = new Kiln();
    private boolean isSaved = false;
    private final Changes changes = new Changes();
    private final Refusal refusal = new Refusal();
    /** Takes the reasons of single orders: of a run only the reason 6 is told. */
    private final Refusal unheard = new Refusal();
    private final Reader reader = new Reader();
    private final StringBuilder line = new StringBuilder();

    public KilnKeeper() {
    }

    // ---- aiming

    public int aim(int degrees) {
        beginChange();
        return endChange(kiln.aimAt(degrees, refusal));
    }

    public int gains(int error, int sum, int change) {
        beginChange();
        return endChange(kiln.regulator.tellGains(error, sum, change));
    }

    public int cap(int cap) {
        beginChange();
        return endChange(kiln.regulator.tellCap(cap, refusal));
    }

    public int lag(int minutes) {
        beginChange();
        return endChange(kiln.tellLag(minutes, refusal));
    }

    public int fuel(int fuel) {
        beginChange();
        return endChange(kiln.book.addFuel(fuel));
    }

    public int go(int minutes) {
        beginChange();
        return endChange(kiln.letGo(minutes));
    }

    // ---- pots

    public int pot(int shock, int degrees, int minutes) {
        beginChange();
        return endChange(kiln.rack.addPot(shock, degrees, minutes, refusal));
    }

    public int put(int pot) {
        beginChange();
        return endChange(kiln.rack.bringIn(pot, kiln.degrees, refusal));
    }

    public int take(int pot) {
        beginChange();
        return endChange(kiln.rack.bringOut(pot, kiln.degrees, refusal));
    }

    public int potOf(int pot, int what) {
        Pot asked = kiln.rack.find(pot);
        return asked == null ? NONE : asked.number(what);
    }

    public int firedIn(int pot) {
        Pot tried = tryMinutes(0).rack.find(pot);
        if (tried == null) {
            return NONE;
        }
        for (int minute = 0; minute < MOST_MINUTES; minute++) {
            if (tried.state == FIRED) {
                return minute;
            }
            spare.passMinute();
        }
        return tried.state == FIRED ? MOST_MINUTES : NOTHING;
    }

    public int wouldCrack(int minutes) {
        if (!isFrom(0, minutes, MOST_MINUTES)) {
            return BAD;
        }
        return tryMinutes(minutes).rack.crackedSet() & ~kiln.rack.crackedSet();
    }

    public int ranked(int place) {
        return kiln.rack.potAtPlace(place);
    }

    // ---- what comes

    public int degreesIn(int minutes) {
        return isFrom(0, minutes, MOST_MINUTES) ? tryMinutes(minutes).degrees : BAD;
    }

    public int wanted() {
        return kiln.regulator.wantedDamper(kiln.error());
    }

    public int settlesIn() {
        tryMinutes(0);
        int settled = 0;
        for (int minute = 1; minute <= MOST_MINUTES; minute++) {
            spare.passMinute();
            settled = isFrom(-SETTLED_DEGREES, spare.error(), SETTLED_DEGREES) ? settled + 1 : 0;
            if (settled == SETTLED_MINUTES) {
                return minute;
            }
        }
        return NOTHING;
    }

    public int wouldOvershoot(int minutes) {
        return isFrom(0, minutes, MOST_MINUTES) ? tryMinutes(minutes).overshoot : BAD;
    }

    public int logged(int place, int what) {
        return kiln.book.loggedNumber(place, what);
    }

    public int burnt() {
        return kiln.book.burntFuel;
    }

    public int burntAgain() {
        return kiln.book.burntByAmounts();
    }

    public int minutesWith(int fuel) {
        return isFrom(0, fuel, MOST_DAMPER) ? numberAt(kiln.book.amounts, fuel) : BAD;
    }

    // ---- texts, lines

    public int append(int code) {
        return reader.addCode(code);
    }

    public int run() {
        int count = reader.read();
        reader.clearText();
        if (count < 0) {
            return count;
        }
        beginChange();
        for (int number = 0; number < count; number++) {
            if (carryOut(reader.orderAt(number)) < 0) {
                return endChange(refusal.because(ORDER_FAILS, number));
            }
        }
        return endChange(count);
    }

    public int tell() {
        line.setLength(0);
        kiln.write(line);
        return line.length();
    }

    public int tellPot(int pot) {
        Pot told = kiln.rack.find(pot);
        if (told == null) {
            return NONE;
        }
        line.setLength(0);
        line.append(pot);
        told.write(line);
        return line.length();
    }

    public int character(int index) {
        return index >= 0 && index < line.length() ? line.charAt(index) : NONE;
    }

    // ---- reasons, accounts, undo and the snapshot

    public int reason(boolean isDetail) {
        if (refusal.cause == 0) {
            return NOTHING;
        }
        return isDetail ? refusal.detail : refusal.cause;
    }

    public int account(int what) {
        switch (what) {
            case 16:
                return reader.textLength();
            case 17:
                return changes.count;
            default:
                return kiln.accountOf(what);
        }
    }

    public int isBalanced() {
        return kiln.book.isInBalance() && kiln.rack.isNoneSoakedTooLong() ? 1 : 0;
    }

    public double meanBurnt() {
        int minutes = kiln.book.minutes;
        return minutes == 0 ? 0.0 : (double) kiln.book.burntFuel / (double) minutes;
    }

    public float firedShare() {
        int pots = kiln.rack.count;
        return pots == 0 ? 0.0f : (float) kiln.rack.countOf(FIRED) / (float) pots;
    }

    public int undo() {
        return changes.takeBack(kiln);
    }

    public int save() {
        snapshot.copyFrom(kiln);
        isSaved = true;
        return kiln.book.minutes;
    }

    public int restore() {
        if (!isSaved) {
            return NOTHING;
        }
        kiln.copyFrom(snapshot);
        changes.count = 0;
        return kiln.book.minutes;
    }

    private void beginChange() {
        spare.copyFrom(kiln);
    }

    /** All codes are below 0 and all other answers are not. */
    private int endChange(int answer) {
        if (answer < 0) {
            kiln.copyFrom(spare);
        } else {
            changes.keep(spare);
        }
        return answer;
    }

    private Kiln tryMinutes(int minutes) {
        spare.copyFrom(kiln);
        for (int minute = 0; minute < minutes; minute++) {
            spare.passMinute();
        }
        return spare;
    }

    private int carryOut(Order order) {
        if (order == null || order.word == null) {
            return NONE;
        }
        int first = numberAt(order.numbers, 0);
        int second = numberAt(order.numbers, 1);
        int third = numberAt(order.numbers, 2);
        switch (order.word) {
            case AIM:
                return kiln.aimAt(first, unheard);
            case GAIN:
                return kiln.regulator.tellGains(first, second, third);
            case CAP:
                return kiln.regulator.tellCap(first, unheard);
            case LAG:
                return kiln.tellLag(first, unheard);
            case POT:
                return kiln.rack.addPot(first, second, third, unheard);
            case PUT:
                return kiln.rack.bringIn(first, kiln.degrees, unheard);
            case TAKE:
                return kiln.rack.bringOut(first, kiln.degrees, unheard);
            case FUEL:
                return kiln.book.addFuel(first);
            default:
                return kiln.letGo(first);
        }
    }

    private static boolean isFrom(int least, int number, int most) {
        return number >= least && number <= most;
    }

    private static int between(int least, int number, int most) {
        if (number < least) {
            return least;
        }
        return number > most ? most : number;
    }

    private static int numberAt(int[] row, int index) {
        return index >= 0 && index < row.length ? row[index] : 0;
    }

    private static void setNumberAt(int[] row, int index, int number) {
        if (index >= 0 && index < row.length) {
            row[index] = number;
        }
    }

    private static void copyRow(int[] from, int[] to) {
        for (int index = 0; index < from.length && index < to.length; index++) {
            to[index] = from[index];
        }
    }

    /** The kiln with all that changes can change, so that a copy of it is enough for undo. */
    private static final class Kiln {
        int degrees = COLDEST;
        int aimedDegrees = COLDEST;
        int overshoot = 0;
        int damper = 0;
        final Regulator regulator = new Regulator();
        final LagRow lagRow = new LagRow();
        final Book book = new Book();
        final Rack rack = new Rack();

        void copyFrom(Kiln other) {
            degrees = other.degrees;
            aimedDegrees = other.aimedDegrees;
            overshoot = other.overshoot;
            damper = other.damper;
            regulator.copyFrom(other.regulator);
            lagRow.copyFrom(other.lagRow);
            book.copyFrom(other.book);
            rack.copyFrom(other.rack);
        }

        int error() {
            return aimedDegrees - degrees;
        }

        int aimAt(int newDegrees, Refusal refusal) {
            if (!isFrom(COLDEST, newDegrees, HIGHEST_AIM)) {
                return BAD;
            }
            if (newDegrees == aimedDegrees) {
                return refusal.because(SO_ALREADY, aimedDegrees);
            }
            int before = aimedDegrees;
            aimedDegrees = newDegrees;
            overshoot = 0;
            return before;
        }

        int tellLag(int minutes, Refusal refusal) {
            if (!isFrom(0, minutes, MOST_LAG)) {
                return BAD;
            }
            int before = lagRow.length;
            if (minutes == before) {
                return refusal.because(SO_ALREADY, before);
            }
            lagRow.resize(minutes, damper);
            return before;
        }

        int letGo(int minutes) {
            if (!isFrom(1, minutes, MOST_MINUTES)) {
                return BAD;
            }
            for (int minute = 0; minute < minutes; minute++) {
                passMinute();
            }
            return degrees;
        }

        void passMinute() {
            int error = error();
            int before = degrees;
            int due = lagRow.passThrough(regulator.wantedDamper(error));
            regulator.noteError(error);
            damper = between(damper - DAMPER_STEP, due, damper + DAMPER_STEP);
            int burning = book.burn(damper);
            degrees = Math.max(COLDEST, before + burning / 2 - (before - COLDEST) / LOSS_SHARE);
            overshoot = Math.max(overshoot, degrees - aimedDegrees);
            book.logMinute(degrees, damper, error, burning);
            rack.passMinute(degrees, Math.abs(degrees - before));
        }

        void write(StringBuilder line) {
            line.append(degrees).append('>').append(aimedDegrees);
            line.append('d').append(damper);
            line.append('f').append(book.fuelLeft);
            lagRow.write(line);
        }

        int accountOf(int what) {
            switch (what) {
                case 0:
                    return book.minutes;
                case 1:
                    return degrees;
                case 2:
                    return aimedDegrees;
                case 3:
                    return error();
                case 4:
                    return regulator.sum;
                case 5:
                    return regulator.latestError;
                case 6:
                    return damper;
                case 7:
                    return book.fuelLeft;
                case 8:
                    return book.fuelThatCame;
                case 9:
                    return overshoot;
                case 10:
                    return rack.count;
                case 11:
                    return rack.countOf(WAITS);
                case 12:
                    return rack.countOf(IN_KILN);
                case 13:
                    return rack.countOf(FIRED);
                case 14:
                    return rack.countOf(CRACKED);
                case 15:
                    return rack.countWithin();
                default:
                    return BAD;
            }
        }
    }

    /** What the damper is wanted by: the gains, the sum within its cap, the latest error. */
    private static final class Regulator {
        int errorGain = 10;
        int sumGain = 0;
        int changeGain = 0;
        int cap = 2000;
        int sum = 0;
        int latestError = 0;

        void copyFrom(Regulator other) {
            errorGain = other.errorGain;
            sumGain = other.sumGain;
            changeGain = other.changeGain;
            cap = other.cap;
            sum = other.sum;
            latestError = other.latestError;
        }

        int tellGains(int newErrorGain, int newSumGain, int newChangeGain) {
            if (!isFrom(0, newErrorGain, MOST_GAIN) || !isFrom(0, newSumGain, MOST_GAIN)
                    || !isFrom(0, newChangeGain, MOST_GAIN)) {
                return BAD;
            }
            int before = 10000 * errorGain + 100 * sumGain + changeGain;
            errorGain = newErrorGain;
            sumGain = newSumGain;
            changeGain = newChangeGain;
            return before;
        }

        int tellCap(int newCap, Refusal refusal) {
            if (!isFrom(0, newCap, MOST_CAP)) {
                return BAD;
            }
            if (newCap == cap) {
                return refusal.because(SO_ALREADY, cap);
            }
            int before = cap;
            cap = newCap;
            sum = between(-cap, sum, cap);
            return before;
        }

        /** The damper that is wanted in a minute that begins with this error. */
        int wantedDamper(int error) {
            int together = 10 * errorGain * error + sumGain * sumWith(error)
                    + 10 * changeGain * (error - latestError);
            return between(0, Math.floorDiv(together, 100), MOST_DAMPER);
        }

        void noteError(int error) {
            sum = sumWith(error);
            latestError = error;
        }

        private int sumWith(int error) {
            return between(-cap, sum + error, cap);
        }
    }

    /** The wanted dampers on their way to the damper, the first one first. */
    private static final class LagRow {
        int length = 0;
        private final int[] dampers = new int[MOST_LAG];

        void copyFrom(LagRow other) {
            length = other.length;
            copyRow(other.dampers, dampers);
        }

        int passThrough(int wantedDamper) {
            if (length == 0) {
                return wantedDamper;
            }
            int first = numberAt(dampers, 0);
            shiftBy(-1);
            setNumberAt(dampers, length - 1, wantedDamper);
            return first;
        }

        void resize(int newLength, int damper) {
            int more = newLength - length;
            shiftBy(more);
            for (int index = 0; index < more; index++) {
                setNumberAt(dampers, index, damper);
            }
            length = newLength;
        }

        void write(StringBuilder line) {
            for (int index = 0; index < length; index++) {
                line.append('~').append(numberAt(dampers, index));
            }
        }

        /** Goes against the way of the shift, so that no number is lost before it is moved. */
        private void shiftBy(int places) {
            if (places < 0) {
                for (int index = 0; index < MOST_LAG; index++) {
                    setNumberAt(dampers, index + places, numberAt(dampers, index));
                }
            } else {
                for (int index = MOST_LAG - 1; index >= 0; index--) {
                    setNumberAt(dampers, index + places, numberAt(dampers, index));
                }
            }
        }
    }

    /** What is written down of fuel and minutes. */
    private static final class Book {
        int minutes = 0;
        int fuelLeft = 0;
        int fuelThatCame = 0;
        int burntFuel = 0;
        /** By amounts of fuel: how many minutes burnt so much. */
        final int[] amounts = new int[MOST_DAMPER + 1];
        /** The minute number m stands at the place m modulo 12. */
        private final int[] log = new int[LOG_PLACES * LOG_NUMBERS];

        void copyFrom(Book other) {
            minutes = other.minutes;
            fuelLeft = other.fuelLeft;
            fuelThatCame = other.fuelThatCame;
            burntFuel = other.burntFuel;
            copyRow(other.amounts, amounts);
            copyRow(other.log, log);
        }

        int addFuel(int fuel) {
            if (!isFrom(1, fuel, MOST_FUEL)) {
                return BAD;
            }
            fuelThatCame += fuel;
            fuelLeft += fuel;
            return fuelLeft;
        }

        int burn(int damper) {
            int burning = Math.min(damper, fuelLeft);
            fuelLeft -= burning;
            burntFuel += burning;
            setNumberAt(amounts, burning, numberAt(amounts, burning) + 1);
            return burning;
        }

        void logMinute(int degrees, int damper, int error, int burning) {
            int start = logStart(minutes);
            setNumberAt(log, start, degrees);
            setNumberAt(log, start + 1, damper);
            setNumberAt(log, start + 2, error);
            setNumberAt(log, start + 3, burning);
            minutes++;
        }

        int loggedNumber(int place, int what) {
            if (place < 0 || place >= Math.min(minutes, LOG_PLACES)) {
                return NONE;
            }
            if (!isFrom(0, what, LOG_NUMBERS - 1)) {
                return BAD;
            }
            return numberAt(log, logStart(minutes - 1 - place) + what);
        }

        int burntByAmounts() {
            int fuel = 0;
            for (int amount = 0; amount < amounts.length; amount++) {
                fuel += amount * amounts[amount];
            }
            return fuel;
        }

        boolean isInBalance() {
            int minutesOfAmounts = 0;
            for (int amount = 0; amount < amounts.length; amount++) {
                minutesOfAmounts += amounts[amount];
            }
            return fuelThatCame == fuelLeft + burntFuel && burntFuel == burntByAmounts()
                    && minutes == minutesOfAmounts;
        }

        private static int logStart(int minute) {
            return minute % LOG_PLACES * LOG_NUMBERS;
        }
    }

    private static final class Pot {
        int shock = 0;
        int needed = 0;
        int soaking = 0;
        int state = WAITS;
        int soaked = 0;
        boolean isWithin = false;
        int mostJump = 0;

        void copyFrom(Pot other) {
            shock = other.shock;
            needed = other.needed;
            soaking = other.soaking;
            state = other.state;
            soaked = other.soaked;
            isWithin = other.isWithin;
            mostJump = other.mostJump;
        }

        void begin(int newShock, int newNeeded, int newSoaking) {
            shock = newShock;
            needed = newNeeded;
            soaking = newSoaking;
            state = WAITS;
            soaked = 0;
            isWithin = false;
            mostJump = 0;
        }

        void passMinute(int degrees, int jump) {
            if (state != IN_KILN) {
                return;
            }
            mostJump = Math.max(mostJump, jump);
            if (jump > shock || degrees - needed > MOST_HEAT_TOO_MUCH) {
                state = CRACKED;
                return;
            }
            if (degrees >= needed) {
                soaked++;
            }
            if (soaked >= soaking) {
                state = FIRED;
            }
        }

        boolean isAheadOf(Pot other) {
            int left = soaking - soaked;
            int leftOfOther = other.soaking - other.soaked;
            return left < leftOfOther || left == leftOfOther && needed > other.needed;
        }

        int number(int what) {
            switch (what) {
                case 0:
                    return shock;
                case 1:
                    return needed;
                case 2:
                    return soaking;
                case 3:
                    return state;
                case 4:
                    return soaked;
                case 5:
                    return isWithin ? 1 : 0;
                case 6:
                    return mostJump;
                default:
                    return BAD;
            }
        }

        void write(StringBuilder line) {
            line.append('!').append(shock).append('^').append(needed);
            line.append('*').append(soaked).append('/').append(soaking);
            line.append(stateLetter());
        }

        private char stateLetter() {
            switch (state) {
                case WAITS:
                    return 'w';
                case IN_KILN:
                    return 'k';
                case FIRED:
                    return 'f';
                default:
                    return 'x';
            }
        }
    }

    /** All pots that came, within the kiln or not. */
    private static final class Rack {
        int count = 0;
        private final Pot[] pots = new Pot[MOST_POTS];

        Rack() {
            for (int number = 0; number < pots.length; number++) {
                pots[number] = new Pot();
            }
        }

        void copyFrom(Rack other) {
            count = other.count;
            for (int number = 0; number < count; number++) {
                Pot from = other.find(number);
                Pot to = find(number);
                if (from != null && to != null) {
                    to.copyFrom(from);
                }
            }
        }

        Pot find(int number) {
            return number >= 0 && number < count && number < pots.length ? pots[number] : null;
        }

        int addPot(int shock, int needed, int soaking, Refusal refusal) {
            if (!isFrom(1, shock, MOST_SHOCK) || !isFrom(LEAST_NEEDED, needed, MOST_NEEDED)
                    || !isFrom(1, soaking, MOST_SOAKING)) {
                return BAD;
            }
            if (count >= MOST_POTS) {
                return refusal.because(NO_ROOM, count);
            }
            int number = count;
            count++;
            Pot added = find(number);
            if (added != null) {
                added.begin(shock, needed, soaking);
            }
            return number;
        }

        int bringIn(int number, int degrees, Refusal refusal) {
            Pot pot = find(number);
            if (pot == null) {
                return NONE;
            }
            if (pot.state != WAITS) {
                return refusal.because(NOT_WAITING, pot.state);
            }
            if (degrees > TOUCHABLE_DEGREES) {
                return refusal.because(TOO_HOT, degrees);
            }
            int within = countWithin();
            if (within >= MOST_WITHIN) {
                return refusal.because(NO_ROOM, within);
            }
            pot.state = IN_KILN;
            pot.isWithin = true;
            return within + 1;
        }

        int bringOut(int number, int degrees, Refusal refusal) {
            Pot pot = find(number);
            if (pot == null) {
                return NONE;
            }
            if (!pot.isWithin) {
                return refusal.because(NOT_WITHIN, pot.state);
            }
            if (degrees > TOUCHABLE_DEGREES) {
                return refusal.because(TOO_HOT, degrees);
            }
            pot.isWithin = false;
            if (pot.state == IN_KILN) {
                pot.state = WAITS;
            }
            return pot.state;
        }

        void passMinute(int degrees, int jump) {
            for (int number = 0; number < count; number++) {
                Pot pot = find(number);
                if (pot != null) {
                    pot.passMinute(degrees, jump);
                }
            }
        }

        int potAtPlace(int place) {
            for (int number = 0; number < count; number++) {
                if (countAheadOf(number) == place) {
                    return number;
                }
            }
            return NONE;
        }

        private int countAheadOf(int number) {
            Pot pot = find(number);
            int ahead = 0;
            for (int rival = 0; rival < count; rival++) {
                Pot other = find(rival);
                if (pot != null && other != null && rival != number
                        && (other.isAheadOf(pot) || !pot.isAheadOf(other) && rival < number)) {
                    ahead++;
                }
            }
            return ahead;
        }

        int countOf(int state) {
            int found = 0;
            for (int number = 0; number < count; number++) {
                Pot pot = find(number);
                if (pot != null && pot.state == state) {
                    found++;
                }
            }
            return found;
        }

        int countWithin() {
            int found = 0;
            for (int number = 0; number < count; number++) {
                Pot pot = find(number);
                if (pot != null && pot.isWithin) {
                    found++;
                }
            }
            return found;
        }

        int crackedSet() {
            int set = 0;
            for (int number = 0; number < count; number++) {
                Pot pot = find(number);
                if (pot != null && pot.state == CRACKED) {
                    set |= 1 << number;
                }
            }
            return set;
        }

        boolean isNoneSoakedTooLong() {
            for (int number = 0; number < count; number++) {
                Pot pot = find(number);
                if (pot != null && pot.soaked > pot.soaking) {
                    return false;
                }
            }
            return true;
        }
    }

    /** The kilns as they were ahead of the latest changes, the earliest one first. */
    private static final class Changes {
        int count = 0;
        /** The place of the earliest one: the row goes round, so that nothing is moved. */
        private int start = 0;
        private final Kiln[] kilns = new Kiln[MOST_CHANGES];

        Changes() {
            for (int place = 0; place < kilns.length; place++) {
                kilns[place] = new Kiln();
            }
        }

        void keep(Kiln before) {
            if (count == MOST_CHANGES) {
                start = (start + 1) % MOST_CHANGES;
                count--;
            }
            Kiln kept = kilnAt(count);
            if (kept != null) {
                kept.copyFrom(before);
            }
            count++;
        }

        int takeBack(Kiln kiln) {
            if (count == 0) {
                return NOTHING;
            }
            count--;
            Kiln before = kilnAt(count);
            if (before != null) {
                kiln.copyFrom(before);
            }
            return count;
        }

        private Kiln kilnAt(int place) {
            int index = (start + place) % MOST_CHANGES;
            return index >= 0 && index < kilns.length ? kilns[index] : null;
        }
    }

    /** The latest reason; 0 stands for none. */
    private static final class Refusal {
        int cause = 0;
        int detail = 0;

        int because(int newCause, int newDetail) {
            cause = newCause;
            detail = newDetail;
            return REFUSED;
        }
    }

    /** How each order is written: a digit d stands for a number of one to d digits. */
    private enum Word {
        AIM("aim 4"),
        GAIN("gain 2 2 2"),
        CAP("cap 4"),
        LAG("lag 1"),
        POT("pot 2 4 2"),
        PUT("put 1"),
        TAKE("take 1"),
        FUEL("fuel 4"),
        GO("go 3");

        final String form;

        Word(String form) {
            this.form = form;
        }
    }

    private static final class Order {
        Word word = Word.GO;
        final int[] numbers = new int[MOST_ORDER_NUMBERS];
    }

    /** The text, and the orders that were read from it. */
    private static final class Reader {
        private final StringBuilder text = new StringBuilder();
        private final Order[] orders = new Order[MOST_ORDERS];

        Reader() {
            for (int number = 0; number < orders.length; number++) {
                orders[number] = new Order();
            }
        }

        int textLength() {
            return text.length();
        }

        void clearText() {
            text.setLength(0);
        }

        int addCode(int code) {
            if (!isFrom(LEAST_CODE, code, MOST_CODE)) {
                return BAD;
            }
            if (text.length() >= MOST_TEXT) {
                return FULL;
            }
            text.append((char) code);
            return text.length();
        }

        Order orderAt(int number) {
            return number >= 0 && number < orders.length ? orders[number] : null;
        }

        /** Answers how many orders there are, or the code of a wrong text. */
        int read() {
            int start = 0;
            for (int number = 0; number < MOST_ORDERS; number++) {
                int end = readOrder(start, orderAt(number));
                if (end < 0) {
                    return WRONG_TEXT - placeOfFault(end);
                }
                if (end == text.length()) {
                    return number + 1;
                }
                if (!isSignAt(end, ';')) {
                    return WRONG_TEXT - end;
                }
                start = end + 1;
            }
            return WRONG_TEXT - start;
        }

        /**
         * Answers where the order ends, or a fault. The forms part early, so the one that goes
         * on for longest tells where no order at all can continue.
         */
        private int readOrder(int start, Order order) {
            int fault = start;
            for (Word word : WORDS) {
                int end = readForm(word, start, order);
                if (end >= 0) {
                    return end;
                }
                fault = Math.max(fault, placeOfFault(end));
            }
            return faultAt(fault);
        }

        private int readForm(Word word, int start, Order order) {
            if (word == null || order == null) {
                return faultAt(start);
            }
            order.word = word;
            int position = start;
            int count = 0;
            for (int index = 0; index < word.form.length(); index++) {
                char sign = word.form.charAt(index);
                if (sign >= '1' && sign <= '9') {
                    int end = endOfDigits(position, sign - '0');
                    if (end == position) {
                        return faultAt(position);
                    }
                    setNumberAt(order.numbers, count, numberFrom(position, end));
                    count++;
                    position = end;
                } else if (isSignAt(position, sign)) {
                    position++;
                } else {
                    return faultAt(position);
                }
            }
            return position;
        }

        private int endOfDigits(int start, int most) {
            int end = start;
            while (end < start + most && end < text.length() && digitAt(end) >= 0) {
                end++;
            }
            return end;
        }

        private int numberFrom(int start, int end) {
            int number = 0;
            for (int index = start; index < end; index++) {
                number = 10 * number + digitAt(index);
            }
            return number;
        }

        private int digitAt(int index) {
            if (index < 0 || index >= text.length()) {
                return -1;
            }
            char sign = text.charAt(index);
            return sign >= '0' && sign <= '9' ? sign - '0' : -1;
        }

        private boolean isSignAt(int index, char sign) {
            return index >= 0 && index < text.length() && text.charAt(index) == sign;
        }

        /** Below 0, so that it is no end of an order; it is its own way back. */
        private static int faultAt(int position) {
            return -1 - position;
        }

        private static int placeOfFault(int fault) {
            return -1 - fault;
        }
    }
}
