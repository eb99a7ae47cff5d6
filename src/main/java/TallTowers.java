import java.util.Arrays;
import java.util.NoSuchElementException;

/**
 * A desk for slow harms: towers of layers, year by year, and harms that go over many years and are spread
 * over them. All is kept as events; whatever is asked about another course of events is gone over again on
 * a second book, so that the first one never changes by a question.
 */
public final class TallTowers {
    public static final int NONE = -1;

    private static final int NONE_ABOVE = -2;

    private static final int YEARS = 12;
    private static final int LAYERS = 40;
    private static final int RUNGS = 6;
    private static final int SIGNERS = 4;
    private static final int TENTHS = 10;
    private static final int INSURERS = 10;
    private static final int HARMS = 24;
    private static final int EVENTS = 160;
    private static final int HIGHEST_RULE = 3;

    private static final int HIGHEST_FROM = 900000000;
    private static final int GREATEST_SIZE = 100000000;
    private static final int MOST_TIMES = 4;
    private static final int MOST_MONEY = 1000000000;
    private static final int HIGHEST_HEIGHT = 1000000000;
    private static final long HIGHEST_LEVEL = 2000000000L;

    /** The row of a harm that is only asked about: nothing is ever written to it. */
    private static final int NEW_HARM = HARMS;

    private static final int SOUND = 0;
    private static final int SETTLED = 1;
    private static final int FALLEN = 2;

    private static final int REASONS = 7;
    private static final int BY_OWN = 0;
    private static final int BY_HOLES = 1;
    private static final int BY_ABOVE = 2;
    private static final int BY_GAPS = 3;
    private static final int BY_UNSIGNED = 4;
    private static final int BY_SETTLED = 5;
    private static final int BY_FALLEN = 6;

    private static final int PLACE = 0;
    private static final int SIGN = 1;
    private static final int LACK = 2;
    private static final int RULES = 3;
    private static final int HARM = 4;
    private static final int GROW = 5;
    private static final int SETTLE = 6;
    private static final int FALL = 7;
    private static final int REOPEN = 8;

    private static final int ALIKE = 0;
    private static final int BY_SIZES = 1;
    private static final int IN_TURN = 2;

    private static final int MOST_ROOM = 0;
    private static final int LATEST = 1;
    private static final int LOWEST = 2;

    private static final int REFUSALS = 3;
    private static final int MISSING = 0;
    private static final int WRONG = 1;
    private static final int UNFIT = 2;

    private final Log log;
    private final Book live;
    private final Book trial;
    private final Spreader spreader;
    private final int[] refused;

    public TallTowers() {
        log = new Log();
        live = new Book();
        trial = new Book();
        spreader = new Spreader();
        refused = new int[REFUSALS];
    }

    // ---- what is done

    public int place(int year, int from, int size, int times) throws IllegalArgumentException, IllegalStateException {
        needRight(isYear(year) && isWithin(from, 0, HIGHEST_FROM) && isWithin(size, 1, GREATEST_SIZE)
                && isWithin(times, 1, MOST_TIMES));
        int number = live.towers.count;
        log.write(PLACE, number, year, from, size, times);
        enter();
        return number;
    }

    public int sign(int layer, int insurer, int tenths)
            throws NoSuchElementException, IllegalArgumentException, IllegalStateException {
        needThere(isLayer(layer));
        needRight(isInsurer(insurer) && isWithin(tenths, 1, TENTHS));
        log.write(SIGN, layer, insurer, tenths, 0, 0);
        enter();
        return TENTHS - live.towers.tenthsOf[layer];
    }

    public int lack(int year) throws IllegalArgumentException, IllegalStateException {
        needRight(isYear(year));
        log.write(LACK, year, 0, 0, 0, 0);
        enter();
        return Integer.bitCount(live.towers.lacking);
    }

    public int rules(int trigger, int spread, int pick) throws IllegalArgumentException, IllegalStateException {
        needRight(areRules(trigger, spread, pick));
        if (trigger == live.trigger && spread == live.spread && pick == live.pick) {
            return 0;
        }
        log.write(RULES, trigger, spread, pick, 0, 0);
        enter();
        return 1;
    }

    public int harm(int first, int last, int shown, int loss) throws IllegalArgumentException, IllegalStateException {
        needRight(areHarmYears(first, last, shown) && isAmount(loss));
        int number = live.harms.count;
        log.write(HARM, number, first, last, shown, loss);
        enter();
        return number;
    }

    public long grow(int harm, int more)
            throws NoSuchElementException, IllegalArgumentException, IllegalStateException {
        needThere(isHarm(harm));
        needRight(isAmount(more));
        long before = live.harms.borneOf(harm, 0);
        log.write(GROW, harm, more, 0, 0, 0);
        enter();
        return live.harms.borneOf(harm, 0) - before;
    }

    public int settle(int insurer, int cash) throws IllegalArgumentException, IllegalStateException {
        needRight(isOutsider(insurer) && isWithin(cash, 0, MOST_MONEY));
        log.write(SETTLE, insurer, cash, 0, 0, 0);
        enter();
        return Integer.bitCount(live.thoseWho(SETTLED));
    }

    public int fall(int insurer) throws IllegalArgumentException, IllegalStateException {
        needRight(isOutsider(insurer));
        log.write(FALL, insurer, 0, 0, 0, 0);
        enter();
        return Integer.bitCount(live.thoseWho(FALLEN));
    }

    public long reopen(int harm) throws NoSuchElementException, IllegalStateException {
        needThere(isHarm(harm));
        long before = live.harms.borneOf(harm, 0);
        log.write(REOPEN, harm, 0, 0, 0, 0);
        enter();
        return live.harms.borneOf(harm, 0) - before;
    }

    public int back() {
        if (log.count <= 0) {
            return NONE;
        }
        log.count--;
        live.clear();
        for (int k = 0; k < log.count; k++) {
            live.carryOut(log, k, spreader);
        }
        return log.count;
    }

    // ---- what is there

    public int told(int what) throws IllegalArgumentException {
        needRight(isWithin(what, 0, 10));
        switch (what) {
            case 0: return live.towers.count;
            case 1: return live.harms.count;
            case 2: return log.count;
            case 3: return live.trigger;
            case 4: return live.spread;
            case 5: return live.pick;
            case 6: return live.towers.lacking;
            case 7: return live.towers.gapBits();
            case 8: return live.thoseWho(SETTLED);
            case 9: return live.thoseWho(FALLEN);
            default: return live.towers.signerBits();
        }
    }

    public int event(int k, int what) throws NoSuchElementException, IllegalArgumentException {
        needThere(isEvent(k));
        needRight(isWithin(what, 0, 1));
        return log.read(k, what);
    }

    public long layer(int layer, int what) throws NoSuchElementException, IllegalArgumentException {
        needThere(isLayer(layer));
        needRight(isWithin(what, 0, 10));
        Towers towers = live.towers;
        switch (what) {
            case 0: return towers.yearOf[layer];
            case 1: return towers.fromOf[layer];
            case 2: return towers.sizeOf[layer];
            case 3: return towers.timesOf[layer];
            case 4: return towers.usedOf[layer];
            case 5: return towers.leftOf(layer);
            case 6: return towers.widthBelow(towers.yearOf[layer], towers.standOf(layer));
            case 7: return towers.signersOf[layer];
            case 8: return TENTHS - towers.tenthsOf[layer];
            case 9: return towers.standOf(layer);
            default: return towers.isUsedUp(layer) ? 1 : 0;
        }
    }

    public long signed(int layer, int k, int what) throws NoSuchElementException, IllegalArgumentException {
        needThere(isLayer(layer));
        needRight(k >= 0 && isWithin(what, 0, 2));
        Towers towers = live.towers;
        if (k >= towers.signersOf[layer]) {
            return NONE;
        }
        int spot = layer * SIGNERS + k;
        switch (what) {
            case 0: return towers.signer[spot];
            case 1: return towers.tenths[spot];
            default: return towers.had[spot];
        }
    }

    public long year(int year, int what) throws IllegalArgumentException {
        needRight(isYear(year) && isWithin(what, 0, 6));
        Towers towers = live.towers;
        int height = towers.layersIn[year];
        switch (what) {
            case 0: return height;
            case 1: return height > 0 ? towers.lowestFrom(year) : NONE;
            case 2: return height > 0 ? towers.topOf(towers.layerAt(year, height - 1)) : NONE;
            case 3: return towers.sizesIn(year);
            case 4: return height > 0 ? towers.topOf(towers.layerAt(year, height - 1)) - towers.sizesIn(year) : 0;
            case 5: return towers.usedIn(year);
            default: return towers.leftIn(year);
        }
    }

    public int at(int year, int height) throws IllegalArgumentException {
        needRight(isYear(year) && isHeight(height));
        return live.towers.layerAtHeight(year, height);
    }

    public int rung(int year, int k) throws IllegalArgumentException {
        needRight(isYear(year) && k >= 0);
        return k < live.towers.layersIn[year] ? live.towers.layerAt(year, k) : NONE;
    }

    public long damage(int harm, int what) throws NoSuchElementException, IllegalArgumentException {
        needThere(isHarm(harm));
        needRight(isWithin(what, 0, 5));
        Harms harms = live.harms;
        switch (what) {
            case 0: return harms.first[harm];
            case 1: return harms.last[harm];
            case 2: return harms.shown[harm];
            case 3: return harms.loss[harm];
            case 4: return harms.borneOf(harm, 0);
            default: return harms.grew[harm];
        }
    }

    public long took(int harm, int layer) throws NoSuchElementException {
        needThere(isHarm(harm) && isLayer(layer));
        return live.harms.taken[harm * LAYERS + layer];
    }

    public long hole(int harm, int layer) throws NoSuchElementException {
        needThere(isHarm(harm) && isLayer(layer));
        return live.harms.through[harm * LAYERS + layer];
    }

    public long moved(int harm, int layer) throws NoSuchElementException {
        needThere(isHarm(harm) && isLayer(layer));
        return live.harms.given[harm * LAYERS + layer];
    }

    public long bears(int harm, int insurer) throws NoSuchElementException, IllegalArgumentException {
        needThere(isHarm(harm));
        needRight(isInsurer(insurer));
        return live.harms.borneOf(harm, insurer);
    }

    public long falls(int harm, int reason) throws NoSuchElementException, IllegalArgumentException {
        needThere(isHarm(harm));
        needRight(isReason(reason));
        return live.harms.reasons[harm * REASONS + reason];
    }

    public long insurer(int insurer, int what) throws IllegalArgumentException {
        needRight(isInsurer(insurer) && isWithin(what, 0, 4));
        switch (what) {
            case 0: return live.harms.borneInAll(insurer);
            case 1: return live.standing[insurer];
            case 2: return insurer == 0 ? live.cashInAll() : live.cash[insurer];
            case 3: return live.towers.layersSignedBy(insurer);
            default: return live.towers.leftSignedBy(insurer);
        }
    }

    public long burden(int reason) throws IllegalArgumentException {
        needRight(isReason(reason));
        return live.harms.reasonInAll(reason);
    }

    public int rank(int k) throws IllegalArgumentException {
        needRight(isInsurer(k));
        int found = NONE;
        for (int insurer = 0; insurer < INSURERS && found == NONE; insurer++) {
            if (live.harms.insurersAhead(insurer) == k) {
                found = insurer;
            }
        }
        return found;
    }

    // ---- what a new harm would come to

    public int offs(int first, int last, int shown, int trigger) throws IllegalArgumentException {
        needRight(areHarmYears(first, last, shown) && isRule(trigger));
        return yearsSetOff(first, last, shown, trigger);
    }

    public long would(int first, int last, int shown, int loss, int insurer) throws IllegalArgumentException {
        needRight(areHarmYears(first, last, shown) && isAmount(loss) && isInsurer(insurer));
        spreader.plan(live, NEW_HARM, setOffNow(first, last, shown), loss, live.spread);
        return spreader.real.borne[insurer];
    }

    public long takes(int first, int last, int shown, int loss, int layer)
            throws NoSuchElementException, IllegalArgumentException {
        needThere(isLayer(layer));
        needRight(areHarmYears(first, last, shown) && isAmount(loss));
        spreader.plan(live, NEW_HARM, setOffNow(first, last, shown), loss, live.spread);
        return spreader.real.taken[layer];
    }

    public long drops(int first, int last, int shown, int loss, int reason) throws IllegalArgumentException {
        needRight(areHarmYears(first, last, shown) && isAmount(loss) && isReason(reason));
        spreader.plan(live, NEW_HARM, setOffNow(first, last, shown), loss, live.spread);
        return spreader.real.reasons[reason];
    }

    public long share(int first, int last, int shown, int loss, int year) throws IllegalArgumentException {
        needRight(areHarmYears(first, last, shown) && isAmount(loss) && isYear(year));
        spreader.weighAlike(live.towers, setOffNow(first, last, shown));
        shareOut(loss, spreader.weights, YEARS, spreader.parts);
        return spreader.parts[year];
    }

    public long weight(int first, int last, int shown, int year) throws IllegalArgumentException {
        needRight(areHarmYears(first, last, shown) && isYear(year));
        spreader.weighBySizes(live.towers, setOffNow(first, last, shown));
        return spreader.weights[year];
    }

    public int picks(int first, int last, int shown, int k) throws IllegalArgumentException {
        needRight(areHarmYears(first, last, shown) && k >= 0);
        spreader.measureRooms(live, NEW_HARM, setOffNow(first, last, shown));
        spreader.orderYears(live);
        return k < spreader.openCount ? spreader.open[k] : NONE;
    }

    // ---- another course of events

    public long other(int trigger, int spread, int pick, int insurer) throws IllegalArgumentException {
        needRight(areRules(trigger, spread, pick) && isInsurer(insurer));
        goOverByRules(trigger, spread, pick);
        return trial.harms.borneInAll(insurer);
    }

    public long best(int insurer, int what) throws IllegalArgumentException {
        needRight(isInsurer(insurer) && isWithin(what, 0, 3));
        int found = NONE;
        long least = 0;
        for (int code = 0; code < 64; code++) {
            int spread = (code >> 2) & 3;
            int pick = code & 3;
            // PICK matters by one SPREAD alone; by all others the first PICK answers for the rest.
            if (spread == IN_TURN || pick == 0) {
                goOverByRules(code >> 4, spread, pick);
                long borne = trial.harms.borneInAll(insurer);
                if (found == NONE || borne < least) {
                    found = code;
                    least = borne;
                }
            }
        }
        switch (what) {
            case 0: return found >> 4;
            case 1: return (found >> 2) & 3;
            case 2: return found & 3;
            default: return least;
        }
    }

    public long without(int event, int insurer) throws NoSuchElementException, IllegalArgumentException {
        needThere(isEvent(event));
        needRight(isInsurer(insurer));
        goOverWithout(event);
        return trial.harms.borneInAll(insurer);
    }

    public int undone(int event) throws NoSuchElementException {
        needThere(isEvent(event));
        return goOverWithout(event);
    }

    public long spared(int insurer) throws IllegalArgumentException {
        needRight(isOutsider(insurer));
        int event = log.find(SETTLE, insurer);
        if (event == NONE) {
            return 0;
        }
        goOverWithout(event);
        return trial.harms.borneInAll(insurer) - live.harms.borneInAll(insurer) - live.cash[insurer];
    }

    public long shift(int event, int ahead, int insurer) throws NoSuchElementException, IllegalArgumentException {
        needThere(isEvent(event));
        needRight(isWithin(ahead, 0, log.count) && isInsurer(insurer));
        trial.clear();
        for (int k = 0; k <= log.count; k++) {
            if (k == ahead) {
                trial.carryOut(log, event, spreader);
            }
            if (k < log.count && k != event) {
                trial.carryOut(log, k, spreader);
            }
        }
        return trial.harms.borneInAll(insurer);
    }

    public long after(int event, int insurer) throws NoSuchElementException, IllegalArgumentException {
        needThere(isEvent(event));
        needRight(isInsurer(insurer));
        trial.clear();
        for (int k = 0; k <= event; k++) {
            trial.carryOut(log, k, spreader);
        }
        return trial.harms.borneInAll(insurer);
    }

    public int usedUp(int layer) throws NoSuchElementException {
        needThere(isLayer(layer));
        trial.clear();
        for (int k = 0; k < log.count; k++) {
            trial.carryOut(log, k, spreader);
            if (trial.towers.isThere(layer) && trial.towers.isUsedUp(layer)) {
                return k;
            }
        }
        return NONE;
    }

    public long heaviest(int insurer, int what) throws IllegalArgumentException {
        needRight(isInsurer(insurer) && isWithin(what, 0, 1));
        int found = NONE;
        long least = 0;
        for (int harm = 0; harm < live.harms.count; harm++) {
            // Without its harm() no grow() and no reopen() of it can be done: leaving out that one leaves out all.
            goOverWithout(log.find(HARM, harm));
            long borne = trial.harms.borneInAll(insurer);
            if (found == NONE || borne < least) {
                found = harm;
                least = borne;
            }
        }
        return what == 0 ? found : least;
    }

    // ---- the towers looked at

    public int cover(int year, int from, int to) throws IllegalArgumentException {
        needRight(isYear(year) && isHeight(from) && isHeight(to) && from <= to);
        return live.towers.coveredIn(year, from, to);
    }

    public long reach(int layer) throws NoSuchElementException {
        needThere(isLayer(layer));
        return live.towers.isUsedUp(layer) ? NONE : live.roomBelow(layer) + 1;
    }

    public long uneven(int first, int last, int shown, int loss, int layer)
            throws NoSuchElementException, IllegalArgumentException {
        needThere(isLayer(layer));
        needRight(areHarmYears(first, last, shown) && isAmount(loss));
        spreader.plan(live, NEW_HARM, setOffNow(first, last, shown), loss, IN_TURN);
        return spreader.excesses[layer] - spreader.debts[layer];
    }

    public int widest(int year, int what) throws IllegalArgumentException {
        needRight(isYear(year) && isWithin(what, 0, 1));
        int found = NONE;
        int width = 0;
        for (int k = 0; k < live.towers.layersIn[year]; k++) {
            int next = live.towers.widthBelow(year, k);
            if (next > width) {
                found = live.towers.layerAt(year, k);
                width = next;
            }
        }
        return what == 0 ? found : width;
    }

    public long strongest(int what) throws IllegalArgumentException {
        needRight(isWithin(what, 0, 1));
        int found = NONE;
        long most = 0;
        for (int year = 0; year < YEARS; year++) {
            long left = live.towers.leftIn(year);
            if (left > most) {
                found = year;
                most = left;
            }
        }
        return what == 0 ? found : most;
    }

    public int holds(int insurer, int year, int height) throws IllegalArgumentException {
        needRight(isInsurer(insurer) && isYear(year) && isHeight(height));
        int layer = live.towers.layerAtHeight(year, height);
        return layer >= 0 ? live.towers.tenthsBy(layer, insurer) : 0;
    }

    public long spent() {
        long bits = 0;
        for (int layer = 0; layer < live.towers.count; layer++) {
            if (live.towers.isUsedUp(layer)) {
                bits |= 1L << layer;
            }
        }
        return bits;
    }

    public int status(int what) {
        return isWithin(what, 0, REFUSALS - 1) ? refused[what] : NONE;
    }

    // ---- refusals

    private void needThere(boolean there) {
        if (!there) {
            refused[MISSING]++;
            throw new NoSuchElementException("no such layer, harm or event");
        }
    }

    private void needRight(boolean right) {
        if (!right) {
            refused[WRONG]++;
            throw new IllegalArgumentException("an argument is out of its bounds");
        }
    }

    /** Does the event that was just written; one that can't be done is not kept. */
    private void enter() {
        if (log.count >= EVENTS || !live.carryOut(log, log.count, spreader)) {
            refused[UNFIT]++;
            throw new IllegalStateException("this can't be done now");
        }
        log.count++;
    }

    private boolean isLayer(int layer) {
        return layer >= 0 && layer < live.towers.count;
    }

    private boolean isHarm(int harm) {
        return harm >= 0 && harm < live.harms.count;
    }

    private boolean isEvent(int event) {
        return event >= 0 && event < log.count;
    }

    private static boolean isWithin(int number, int least, int most) {
        return number >= least && number <= most;
    }

    private static boolean isYear(int year) {
        return isWithin(year, 0, YEARS - 1);
    }

    private static boolean isHeight(int height) {
        return isWithin(height, 0, HIGHEST_HEIGHT);
    }

    private static boolean isAmount(int amount) {
        return isWithin(amount, 1, MOST_MONEY);
    }

    private static boolean isInsurer(int insurer) {
        return isWithin(insurer, 0, INSURERS - 1);
    }

    private static boolean isOutsider(int insurer) {
        return isWithin(insurer, 1, INSURERS - 1);
    }

    private static boolean isReason(int reason) {
        return isWithin(reason, 0, REASONS - 1);
    }

    private static boolean isRule(int rule) {
        return isWithin(rule, 0, HIGHEST_RULE);
    }

    private static boolean areRules(int trigger, int spread, int pick) {
        return isRule(trigger) && isRule(spread) && isRule(pick);
    }

    private static boolean areHarmYears(int first, int last, int shown) {
        return first >= 0 && first <= last && last <= shown && shown < YEARS;
    }

    // ---- going over

    /** Answers how many of the other events could not be done. */
    private int goOverWithout(int event) {
        int failed = 0;
        trial.clear();
        for (int k = 0; k < log.count; k++) {
            if (k != event && !trial.carryOut(log, k, spreader)) {
                failed++;
            }
        }
        return failed;
    }

    private void goOverByRules(int trigger, int spread, int pick) {
        trial.clear();
        trial.setRules(trigger, spread, pick);
        for (int k = 0; k < log.count; k++) {
            if (log.read(k, Log.KIND) != RULES) {
                trial.carryOut(log, k, spreader);
            }
        }
    }

    private int setOffNow(int first, int last, int shown) {
        return yearsSetOff(first, last, shown, live.trigger);
    }

    private static int yearsSetOff(int first, int last, int shown, int trigger) {
        switch (trigger) {
            case 0: return yearBits(first, last);
            case 1: return yearBits(shown, shown);
            case 2: return yearBits(first, shown);
            default: return yearBits(first, last) | yearBits(shown, shown);
        }
    }

    private static int yearBits(int first, int last) {
        int bits = 0;
        for (int year = first; year <= last; year++) {
            bits |= 1 << year;
        }
        return bits;
    }

    /** Parts of an amount by weights; without any weight there are no parts. */
    private static void shareOut(long amount, long[] weights, int count, long[] parts) {
        long all = 0;
        for (int i = 0; i < count; i++) {
            all += weights[i];
            parts[i] = 0;
        }
        if (all <= 0) {
            return;
        }
        // Amount times weight may pass a long: whole rounds of all weights are taken out ahead.
        long rounds = amount / all;
        long remainder = amount % all;
        long rest = amount;
        for (int i = 0; i < count; i++) {
            parts[i] = rounds * weights[i] + remainder * weights[i] / all;
            rest -= parts[i];
        }
        for (int i = 0; i < count && rest > 0; i++) {
            if (weights[i] > 0) {
                parts[i]++;
                rest--;
            }
        }
    }

    /** The events as they were told, in order: each a row of its kind, what it tells of, and its numbers. */
    private static final class Log {
        static final int KIND = 0;
        static final int ABOUT = 1;
        static final int NUMBERS = 2;
        static final int WIDTH = 6;

        final int[] rows = new int[EVENTS * WIDTH];
        int count;

        /** Writes a row behind all events; it becomes one only when the count goes on. */
        void write(int kind, int about, int a, int b, int c, int d) {
            if (count >= EVENTS) {
                return;
            }
            int spot = count * WIDTH;
            rows[spot + KIND] = kind;
            rows[spot + ABOUT] = about;
            rows[spot + NUMBERS] = a;
            rows[spot + NUMBERS + 1] = b;
            rows[spot + NUMBERS + 2] = c;
            rows[spot + NUMBERS + 3] = d;
        }

        int read(int k, int column) {
            return rows[k * WIDTH + column];
        }

        int find(int kind, int about) {
            for (int k = 0; k < count; k++) {
                if (read(k, KIND) == kind && read(k, ABOUT) == about) {
                    return k;
                }
            }
            return NONE;
        }
    }

    /** The layers, year by year, and who signed them. */
    private static final class Towers {
        final int[] yearOf = new int[LAYERS];
        final int[] fromOf = new int[LAYERS];
        final int[] sizeOf = new int[LAYERS];
        final int[] timesOf = new int[LAYERS];
        final long[] usedOf = new long[LAYERS];
        final int[] signersOf = new int[LAYERS];
        final int[] tenthsOf = new int[LAYERS];
        final int[] signer = new int[LAYERS * SIGNERS];
        final int[] tenths = new int[LAYERS * SIGNERS];
        final long[] had = new long[LAYERS * SIGNERS];
        final int[] rungs = new int[YEARS * RUNGS];
        final int[] layersIn = new int[YEARS];
        int lacking;
        /** One above the greatest number of a layer; gone over, lesser numbers may be missing. */
        int count;

        Towers() {
            Arrays.fill(yearOf, NONE);
        }

        void clear() {
            Arrays.fill(yearOf, NONE);
            Arrays.fill(layersIn, 0);
            lacking = 0;
            count = 0;
        }

        boolean isThere(int layer) {
            return yearOf[layer] != NONE;
        }

        boolean isGap(int year) {
            return layersIn[year] == 0;
        }

        boolean lacks(int year) {
            return (lacking >> year & 1) != 0;
        }

        int layerAt(int year, int k) {
            return rungs[year * RUNGS + k];
        }

        int topOf(int layer) {
            return fromOf[layer] + sizeOf[layer];
        }

        int lowestFrom(int year) {
            return fromOf[rungs[year * RUNGS]];
        }

        long leftOf(int layer) {
            return (long) sizeOf[layer] * timesOf[layer] - usedOf[layer];
        }

        boolean isUsedUp(int layer) {
            return leftOf(layer) <= 0;
        }

        /** How wide the hole is below the k-th layer of a year. */
        int widthBelow(int year, int k) {
            int floor = k > 0 ? topOf(layerAt(year, k - 1)) : 0;
            return fromOf[layerAt(year, k)] - floor;
        }

        int standOf(int layer) {
            int year = yearOf[layer];
            int stand = 0;
            for (int k = 0; k < layersIn[year]; k++) {
                if (fromOf[layerAt(year, k)] < fromOf[layer]) {
                    stand++;
                }
            }
            return stand;
        }

        boolean put(int layer, int year, int from, int size, int times) {
            if (layer >= LAYERS || lacks(year) || layersIn[year] >= RUNGS || !isFree(year, from, size)) {
                return false;
            }
            int k = layersIn[year];
            while (k > 0 && fromOf[layerAt(year, k - 1)] > from) {
                rungs[year * RUNGS + k] = layerAt(year, k - 1);
                k--;
            }
            rungs[year * RUNGS + k] = layer;
            layersIn[year]++;
            yearOf[layer] = year;
            fromOf[layer] = from;
            sizeOf[layer] = size;
            timesOf[layer] = times;
            usedOf[layer] = 0;
            signersOf[layer] = 0;
            tenthsOf[layer] = 0;
            count = Math.max(count, layer + 1);
            return true;
        }

        private boolean isFree(int year, int from, int size) {
            for (int k = 0; k < layersIn[year]; k++) {
                int layer = layerAt(year, k);
                if (from < topOf(layer) && fromOf[layer] < from + size) {
                    return false;
                }
            }
            return true;
        }

        boolean putSigner(int layer, int insurer, int part) {
            if (!isThere(layer) || signersOf[layer] >= SIGNERS || tenthsOf[layer] + part > TENTHS
                    || usedOf[layer] > 0 || tenthsBy(layer, insurer) > 0) {
                return false;
            }
            int spot = layer * SIGNERS + signersOf[layer];
            signer[spot] = insurer;
            tenths[spot] = part;
            had[spot] = 0;
            signersOf[layer]++;
            tenthsOf[layer] += part;
            return true;
        }

        boolean putLack(int year) {
            if (lacks(year) || !isGap(year)) {
                return false;
            }
            lacking |= 1 << year;
            return true;
        }

        int tenthsBy(int layer, int insurer) {
            int part = 0;
            for (int k = 0; k < signersOf[layer]; k++) {
                if (signer[layer * SIGNERS + k] == insurer) {
                    part = tenths[layer * SIGNERS + k];
                }
            }
            return part;
        }

        int gapBits() {
            int bits = 0;
            for (int year = 0; year < YEARS; year++) {
                if (isGap(year)) {
                    bits |= 1 << year;
                }
            }
            return bits;
        }

        int signerBits() {
            int bits = 0;
            for (int layer = 0; layer < count; layer++) {
                for (int k = 0; k < signersOf[layer]; k++) {
                    bits |= 1 << signer[layer * SIGNERS + k];
                }
            }
            return bits;
        }

        long sizesIn(int year) {
            long all = 0;
            for (int k = 0; k < layersIn[year]; k++) {
                all += sizeOf[layerAt(year, k)];
            }
            return all;
        }

        long usedIn(int year) {
            long all = 0;
            for (int k = 0; k < layersIn[year]; k++) {
                all += usedOf[layerAt(year, k)];
            }
            return all;
        }

        long leftIn(int year) {
            long all = 0;
            for (int k = 0; k < layersIn[year]; k++) {
                all += leftOf(layerAt(year, k));
            }
            return all;
        }

        int layerAtHeight(int year, int height) {
            for (int k = 0; k < layersIn[year]; k++) {
                int layer = layerAt(year, k);
                if (height < fromOf[layer]) {
                    return NONE;
                }
                if (height < topOf(layer)) {
                    return layer;
                }
            }
            return NONE_ABOVE;
        }

        int coveredIn(int year, int from, int to) {
            int all = 0;
            for (int k = 0; k < layersIn[year]; k++) {
                int layer = layerAt(year, k);
                all += Math.max(0, Math.min(to, topOf(layer)) - Math.max(from, fromOf[layer]));
            }
            return all;
        }

        int layersSignedBy(int insurer) {
            int all = 0;
            for (int layer = 0; layer < count; layer++) {
                if (tenthsBy(layer, insurer) > 0) {
                    all++;
                }
            }
            return all;
        }

        long leftSignedBy(int insurer) {
            long all = 0;
            for (int layer = 0; layer < count; layer++) {
                all += leftOf(layer) * tenthsBy(layer, insurer) / TENTHS;
            }
            return all;
        }
    }

    /** The harms, and what layers, holes and insurers have of each. */
    private static final class Harms {
        final boolean[] there = new boolean[HARMS];
        final int[] first = new int[HARMS];
        final int[] last = new int[HARMS];
        final int[] shown = new int[HARMS];
        final long[] loss = new long[HARMS];
        final int[] grew = new int[HARMS];
        // One row more: that of a harm of which nothing was taken by now.
        final long[] taken = new long[(HARMS + 1) * LAYERS];
        final long[] through = new long[(HARMS + 1) * LAYERS];
        final long[] given = new long[HARMS * LAYERS];
        final long[] had = new long[HARMS * LAYERS * SIGNERS];
        final long[] borne = new long[HARMS * INSURERS];
        final long[] reasons = new long[HARMS * REASONS];
        /** One above the greatest number of a harm; gone over, lesser numbers may be missing. */
        int count;

        void clear() {
            for (int harm = 0; harm < HARMS; harm++) {
                there[harm] = false;
            }
            count = 0;
        }

        boolean put(int harm, int firstYear, int lastYear, int shownYear, int amount) {
            if (harm >= HARMS) {
                return false;
            }
            there[harm] = true;
            first[harm] = firstYear;
            last[harm] = lastYear;
            shown[harm] = shownYear;
            loss[harm] = amount;
            grew[harm] = 0;
            clearRows(harm);
            count = Math.max(count, harm + 1);
            return true;
        }

        boolean addLoss(int harm, int more) {
            if (!there[harm]) {
                return false;
            }
            loss[harm] += more;
            grew[harm]++;
            return true;
        }

        void clearRows(int harm) {
            clearRow(taken, harm, LAYERS);
            clearRow(through, harm, LAYERS);
            clearRow(given, harm, LAYERS);
            clearRow(had, harm, LAYERS * SIGNERS);
            clearRow(borne, harm, INSURERS);
            clearRow(reasons, harm, REASONS);
        }

        private static void clearRow(long[] rows, int harm, int width) {
            for (int i = 0; i < width; i++) {
                rows[harm * width + i] = 0;
            }
        }

        long borneOf(int harm, int insurer) {
            return borne[harm * INSURERS + insurer];
        }

        long borneInAll(int insurer) {
            long all = 0;
            for (int harm = 0; harm < count; harm++) {
                if (there[harm]) {
                    all += borneOf(harm, insurer);
                }
            }
            return all;
        }

        long reasonInAll(int reason) {
            long all = 0;
            for (int harm = 0; harm < count; harm++) {
                if (there[harm]) {
                    all += reasons[harm * REASONS + reason];
                }
            }
            return all;
        }

        int insurersAhead(int insurer) {
            long own = borneInAll(insurer);
            int ahead = 0;
            for (int next = 0; next < INSURERS; next++) {
                long theirs = borneInAll(next);
                if (theirs > own || (theirs == own && next < insurer)) {
                    ahead++;
                }
            }
            return ahead;
        }
    }

    /** All that events come to: towers, harms, how insurers stand, and the rules. */
    private static final class Book {
        final Towers towers = new Towers();
        final Harms harms = new Harms();
        final int[] standing = new int[INSURERS];
        final int[] cash = new int[INSURERS];
        int trigger;
        int spread;
        int pick;

        void clear() {
            towers.clear();
            harms.clear();
            Arrays.fill(standing, SOUND);
            Arrays.fill(cash, 0);
            setRules(0, 0, 0);
        }

        void setRules(int newTrigger, int newSpread, int newPick) {
            trigger = newTrigger;
            spread = newSpread;
            pick = newPick;
        }

        /** Does the k-th event of a log; false, with nothing changed, if it can't be done. */
        boolean carryOut(Log log, int k, Spreader spreader) {
            if (!note(log, k)) {
                return false;
            }
            int harm = log.read(k, Log.ABOUT);
            long amount = amountToSpread(log, k);
            if (amount > 0) {
                int years = yearsSetOff(harms.first[harm], harms.last[harm], harms.shown[harm], trigger);
                spreader.plan(this, harm, years, amount, spread);
                keep(spreader.real, harm);
            }
            return true;
        }

        private long amountToSpread(Log log, int k) {
            switch (log.read(k, Log.KIND)) {
                case HARM:
                case REOPEN: return harms.loss[log.read(k, Log.ABOUT)];
                case GROW: return log.read(k, Log.NUMBERS);
                default: return 0;
            }
        }

        /** Notes what an event tells, but for what is to be spread by it. */
        private boolean note(Log log, int k) {
            int about = log.read(k, Log.ABOUT);
            int a = log.read(k, Log.NUMBERS);
            int b = log.read(k, Log.NUMBERS + 1);
            int c = log.read(k, Log.NUMBERS + 2);
            int d = log.read(k, Log.NUMBERS + 3);
            switch (log.read(k, Log.KIND)) {
                case PLACE: return towers.put(about, a, b, c, d);
                case SIGN: return towers.putSigner(about, a, b);
                case LACK: return towers.putLack(about);
                case RULES: setRules(about, a, b); return true;
                case HARM: return harms.put(about, a, b, c, d);
                case GROW: return harms.addLoss(about, a);
                case SETTLE: return putStanding(about, SETTLED, a);
                case FALL: return putStanding(about, FALLEN, 0);
                default: return takeBack(about);
            }
        }

        private boolean putStanding(int insurer, int newStanding, int newCash) {
            if (standing[insurer] != SOUND) {
                return false;
            }
            standing[insurer] = newStanding;
            cash[insurer] = newCash;
            return true;
        }

        /** Takes back all that was spread of a harm, as if it had not been. */
        private boolean takeBack(int harm) {
            if (!harms.there[harm]) {
                return false;
            }
            for (int layer = 0; layer < towers.count; layer++) {
                long amount = harms.taken[harm * LAYERS + layer];
                if (amount > 0) {
                    towers.usedOf[layer] -= amount;
                    takeBackParts(harm, layer);
                }
            }
            harms.clearRows(harm);
            return true;
        }

        private void takeBackParts(int harm, int layer) {
            int row = harm * LAYERS * SIGNERS;
            for (int k = 0; k < towers.signersOf[layer]; k++) {
                int spot = layer * SIGNERS + k;
                towers.had[spot] -= harms.had[row + spot];
            }
        }

        /** Adds what was spread to what the harm, its layers and its insurers have by now. */
        private void keep(Outcome outcome, int harm) {
            int row = harm * LAYERS;
            for (int layer = 0; layer < towers.count; layer++) {
                harms.through[row + layer] += outcome.through[layer];
                harms.given[row + layer] += outcome.given[layer];
                if (outcome.taken[layer] > 0) {
                    harms.taken[row + layer] += outcome.taken[layer];
                    towers.usedOf[layer] += outcome.taken[layer];
                    keepParts(outcome, harm, layer);
                }
            }
            for (int insurer = 0; insurer < INSURERS; insurer++) {
                harms.borne[harm * INSURERS + insurer] += outcome.borne[insurer];
            }
            for (int reason = 0; reason < REASONS; reason++) {
                harms.reasons[harm * REASONS + reason] += outcome.reasons[reason];
            }
        }

        private void keepParts(Outcome outcome, int harm, int layer) {
            int row = harm * LAYERS * SIGNERS;
            for (int k = 0; k < towers.signersOf[layer]; k++) {
                int spot = layer * SIGNERS + k;
                harms.had[row + spot] += outcome.had[spot];
                towers.had[spot] += outcome.had[spot];
            }
        }

        int thoseWho(int stand) {
            int bits = 0;
            for (int insurer = 1; insurer < INSURERS; insurer++) {
                if (standing[insurer] == stand) {
                    bits |= 1 << insurer;
                }
            }
            return bits;
        }

        long cashInAll() {
            long all = 0;
            for (int insurer = 1; insurer < INSURERS; insurer++) {
                all += cash[insurer];
            }
            return all;
        }

        long canTake(int harm, int layer) {
            long open = towers.sizeOf[layer] - harms.taken[harm * LAYERS + layer];
            long left = (long) towers.sizeOf[layer] * towers.timesOf[layer] - towers.usedOf[layer];
            return open < left ? open : left;
        }

        /** What a hole may still take of a harm; a layer placed later may have cut it below what went through. */
        long holeCanTake(int harm, int layer, int floor) {
            long open = towers.fromOf[layer] - floor - harms.through[harm * LAYERS + layer];
            return open > 0 ? open : 0;
        }

        long roomOf(int harm, int year) {
            long room = 0;
            int floor = 0;
            for (int k = 0; k < towers.layersIn[year]; k++) {
                int layer = towers.rungs[year * RUNGS + k];
                room += holeCanTake(harm, layer, floor) + canTake(harm, layer);
                floor = towers.fromOf[layer] + towers.sizeOf[layer];
            }
            return room;
        }

        /** What holes and layers would take of a new harm before a layer takes anything. */
        long roomBelow(int layer) {
            int year = towers.yearOf[layer];
            long room = 0;
            for (int k = 0; k < towers.layersIn[year]; k++) {
                int next = towers.layerAt(year, k);
                if (towers.fromOf[next] <= towers.fromOf[layer]) {
                    room += towers.widthBelow(year, k);
                }
                if (towers.fromOf[next] < towers.fromOf[layer]) {
                    room += canTake(NEW_HARM, next);
                }
            }
            return room;
        }
    }

    /** What comes of one amount that is spread: in layers, in holes, beside them, and by whom it is borne. */
    private static final class Outcome {
        final long[] taken = new long[LAYERS];
        final long[] through = new long[LAYERS];
        final long[] given = new long[LAYERS];
        final long[] had = new long[LAYERS * SIGNERS];
        final long[] borne = new long[INSURERS];
        final long[] reasons = new long[REASONS];

        void clear() {
            Arrays.fill(taken, 0);
            Arrays.fill(through, 0);
            Arrays.fill(given, 0);
            Arrays.fill(borne, 0);
            Arrays.fill(reasons, 0);
        }

        /** Fills a year from the lowest layer on; answers what is over. */
        long fill(Book book, int harm, int year, long amount) {
            Towers towers = book.towers;
            long rest = amount;
            int floor = 0;
            for (int k = 0; k < towers.layersIn[year] && rest > 0; k++) {
                int layer = towers.rungs[year * RUNGS + k];
                long inHole = Math.min(rest, book.holeCanTake(harm, layer, floor));
                long inLayer = Math.min(rest - inHole, book.canTake(harm, layer));
                through[layer] = inHole;
                taken[layer] = inLayer;
                reasons[BY_HOLES] += inHole;
                rest -= inHole + inLayer;
                floor = towers.fromOf[layer] + towers.sizeOf[layer];
            }
            return rest;
        }

        /** Splits what each layer takes in the end among those who signed it, and the insured. */
        void split(Towers towers, int[] standing) {
            for (int layer = 0; layer < towers.count; layer++) {
                if (taken[layer] > 0) {
                    splitLayer(towers, standing, layer);
                }
            }
            for (int reason = 0; reason < REASONS; reason++) {
                borne[0] += reasons[reason];
            }
        }

        private void splitLayer(Towers towers, int[] standing, int layer) {
            long amount = taken[layer];
            long inAll = amount * towers.tenthsOf[layer] / TENTHS;
            long rest = inAll;
            for (int k = 0; k < towers.signersOf[layer]; k++) {
                int spot = layer * SIGNERS + k;
                had[spot] = amount * towers.tenths[spot] / TENTHS;
                rest -= had[spot];
            }
            for (int k = 0; k < towers.signersOf[layer]; k++) {
                int spot = layer * SIGNERS + k;
                if (rest > 0) {
                    had[spot]++;
                    rest--;
                }
                charge(towers.signer[spot], standing[towers.signer[spot]], had[spot]);
            }
            reasons[BY_UNSIGNED] += amount - inAll;
        }

        private void charge(int insurer, int stand, long amount) {
            if (insurer == 0) {
                reasons[BY_OWN] += amount;
            } else if (stand == SETTLED) {
                reasons[BY_SETTLED] += amount;
            } else if (stand == FALLEN) {
                reasons[BY_FALLEN] += amount;
            } else {
                borne[insurer] += amount;
            }
        }
    }

    /** Spreads amounts over years by the rules of a book, without changing it; its rows are used again and again. */
    private static final class Spreader {
        final Outcome real = new Outcome();
        final Outcome fair = new Outcome();
        final long[] weights = new long[YEARS];
        final long[] parts = new long[YEARS];
        final long[] rooms = new long[YEARS];
        final long[] keys = new long[YEARS];
        final int[] open = new int[YEARS];
        int openCount;
        final long[] excesses = new long[LAYERS];
        final long[] debts = new long[LAYERS];
        final long[] moves = new long[LAYERS];

        /** What comes of an amount that is spread over years, as told in real. */
        void plan(Book book, int harm, int years, long amount, int spread) {
            switch (spread) {
                case ALIKE:
                    weighAlike(book.towers, years);
                    payByWeights(book, harm, amount, real);
                    break;
                case BY_SIZES:
                    weighBySizes(book.towers, years);
                    payByWeights(book, harm, amount, real);
                    break;
                case IN_TURN:
                    weighAlike(book.towers, years);
                    payByWeights(book, harm, amount, fair);
                    measureRooms(book, harm, years);
                    orderYears(book);
                    payInTurn(book, harm, amount);
                    contribute(book.towers.count);
                    break;
                default:
                    measureRooms(book, harm, years);
                    payByLevel(book, harm, amount);
                    break;
            }
            real.split(book.towers, book.standing);
        }

        void weighAlike(Towers towers, int years) {
            int weighed = years & ~towers.lacking;
            for (int year = 0; year < YEARS; year++) {
                weights[year] = weighed >> year & 1;
            }
        }

        void weighBySizes(Towers towers, int years) {
            int weighed = years & ~towers.lacking;
            long all = 0;
            int towersMet = 0;
            for (int year = 0; year < YEARS; year++) {
                weights[year] = (weighed >> year & 1) != 0 ? towers.sizesIn(year) : 0;
                all += weights[year];
                towersMet += weights[year] > 0 ? 1 : 0;
            }
            long ofGap = towersMet > 0 ? all / towersMet : 1;
            for (int year = 0; year < YEARS; year++) {
                if ((weighed >> year & 1) != 0 && towers.isGap(year)) {
                    weights[year] = ofGap;
                }
            }
        }

        private void payByWeights(Book book, int harm, long amount, Outcome outcome) {
            outcome.clear();
            shareOut(amount, weights, YEARS, parts);
            long rest = amount;
            for (int year = 0; year < YEARS; year++) {
                rest -= parts[year];
                if (book.towers.isGap(year)) {
                    outcome.reasons[BY_GAPS] += parts[year];
                } else {
                    outcome.reasons[BY_ABOVE] += outcome.fill(book, harm, year, parts[year]);
                }
            }
            // All years that are set off may lack: then nobody has a part, and all is left.
            outcome.reasons[BY_GAPS] += rest;
        }

        /** Finds the years set off that are no gaps, in their order, and what room each has for a harm. */
        void measureRooms(Book book, int harm, int years) {
            openCount = 0;
            for (int year = 0; year < YEARS; year++) {
                if ((years >> year & 1) != 0 && !book.towers.isGap(year)) {
                    rooms[year] = book.roomOf(harm, year);
                    open[openCount] = year;
                    openCount++;
                }
            }
        }

        /** Orders the open years by PICK; those that are alike stay in their order. */
        void orderYears(Book book) {
            for (int i = 0; i < openCount; i++) {
                int year = open[i];
                keys[year] = keyOf(book, year);
                int k = i;
                while (k > 0 && keys[open[k - 1]] > keys[year]) {
                    open[k] = open[k - 1];
                    k--;
                }
                open[k] = year;
            }
        }

        private long keyOf(Book book, int year) {
            switch (book.pick) {
                case MOST_ROOM: return -rooms[year];
                case LATEST: return -year;
                case LOWEST: return book.towers.lowestFrom(year);
                default: return year;
            }
        }

        /** Fills one open year after another, in the order they have by now; nothing is moved by that yet. */
        private void payInTurn(Book book, int harm, long amount) {
            real.clear();
            long rest = amount;
            for (int i = 0; i < openCount && rest > 0; i++) {
                rest = real.fill(book, harm, open[i], rest);
            }
            real.reasons[openCount > 0 ? BY_ABOVE : BY_GAPS] += rest;
        }

        /** Moves what layers paid in excess to those that paid less than is fair. */
        private void contribute(int layers) {
            long inExcess = 0;
            long inDebt = 0;
            for (int layer = 0; layer < layers; layer++) {
                long more = real.taken[layer] - fair.taken[layer];
                excesses[layer] = more > 0 ? more : 0;
                debts[layer] = more < 0 ? -more : 0;
                inExcess += excesses[layer];
                inDebt += debts[layer];
            }
            long amount = inExcess < inDebt ? inExcess : inDebt;
            shareOut(amount, excesses, layers, moves);
            for (int layer = 0; layer < layers; layer++) {
                real.given[layer] -= moves[layer];
                real.taken[layer] -= moves[layer];
            }
            shareOut(amount, debts, layers, moves);
            for (int layer = 0; layer < layers; layer++) {
                real.given[layer] += moves[layer];
                real.taken[layer] += moves[layer];
            }
        }

        /** Fills all open years, whose rooms were measured, level with level. */
        private void payByLevel(Book book, int harm, long amount) {
            real.clear();
            long level = levelFor(amount);
            long rest = amount - takenAtLevel(level);
            for (int i = 0; i < openCount; i++) {
                int year = open[i];
                long part = Math.min(level, rooms[year]);
                if (rest > 0 && rooms[year] > level) {
                    part++;
                    rest--;
                }
                real.fill(book, harm, year, part);
            }
            real.reasons[openCount > 0 ? BY_ABOVE : BY_GAPS] += rest;
        }

        /** The greatest level that the amount is enough for, found bit by bit from the highest one. */
        private long levelFor(long amount) {
            long level = 0;
            for (int bit = 30; bit >= 0; bit--) {
                long next = level + (1L << bit);
                if (next <= HIGHEST_LEVEL && takenAtLevel(next) <= amount) {
                    level = next;
                }
            }
            return level;
        }

        private long takenAtLevel(long level) {
            long all = 0;
            for (int i = 0; i < openCount; i++) {
                all += Math.min(level, rooms[open[i]]);
            }
            return all;
        }
    }
}
