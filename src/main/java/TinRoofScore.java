import java.util.NoSuchElementException;

/** A printing of rain on tin roofs as music, as ../shared/DOC.md tells it. */
public final class TinRoofScore {
    private static final int MOST_BARS = 6;
    private static final int MOST_SOUNDS = 16;
    private static final int TINS = 4;
    private static final int LEAST_SIZE = 2;
    private static final int MOST_BEATS = 8;
    private static final int MOST_HEIGHT = 9;
    private static final int MOST_LEAK = 3;
    private static final int PITCHES = 12;
    private static final int FIRST_LIMIT = 4;
    private static final int RULES = 4;
    private static final int RULE_FAR = 1;
    private static final int RULE_SAME = 2;
    private static final int RULE_BAR = 3;
    private static final int NONE = -1;

    private static final int FINE = 0;
    private static final int NO_PLACE = 1;
    private static final int OUT_OF_RANGE = 2;
    private static final int REFUSED = 3;

    private static final int MOST_SIGNS = 60;
    // Twelve times "lift" and the semicolons between them are 59 characters.
    private static final int MOST_ORDERS = 12;
    private static final int MOST_NUMBERS = 3;
    // The longest line has eight parts, one of them tied: 27 characters.
    private static final int LONGEST_LINE = 32;
    private static final int MOST_UNDONE = 8;

    private static final Order[] ORDERS = Order.values();

    private final Print print = new Print();
    private final Print saved = new Print();
    private final Print beforeText = new Print();
    private final Judge judge = new Judge(print);
    private final Proof proof = new Proof(print);
    private final Melody melody = new Melody(print);
    private final Ranking ranking = new Ranking(print);
    private final Line written = new Line(print);
    private final Text text = new Text();
    private final History history = new History();
    private boolean isSaved = false;

    public TinRoofScore() {
    }

    // Bars, tins and sounds

    public int bar(int size) throws IllegalArgumentException, UnsupportedOperationException {
        return change(Order.BAR, size, 0, 0);
    }

    public int key(int tin, int key) throws IndexOutOfBoundsException, IllegalArgumentException, UnsupportedOperationException {
        return change(Order.KEY, tin, key, 0);
    }

    public int leak(int tin, int beats) throws IndexOutOfBoundsException, IllegalArgumentException, UnsupportedOperationException {
        return change(Order.LEAK, tin, beats, 0);
    }

    public int drop(int tin, int height, int beats) throws IndexOutOfBoundsException, IllegalArgumentException, UnsupportedOperationException {
        return change(Order.DROP, tin, height, beats);
    }

    public int rest(int tin) throws IndexOutOfBoundsException, UnsupportedOperationException {
        return change(Order.REST, tin, 0, 0);
    }

    public int lift() throws UnsupportedOperationException {
        return change(Order.LIFT, 0, 0, 0);
    }

    public int limit(int limit) throws IllegalArgumentException, UnsupportedOperationException {
        return change(Order.LIMIT, limit, 0, 0);
    }

    public int tune(int sound, int height) throws IndexOutOfBoundsException, IllegalArgumentException, UnsupportedOperationException {
        return change(Order.TUNE, sound, height, 0);
    }

    public int tinOf(int tin, int what) throws IndexOutOfBoundsException, IllegalArgumentException {
        needPlace(isTin(tin));
        needRange(isWithin(what, 0, 4));
        switch (what) {
            case 0: return print.keyOf(tin);
            case 1: return print.leakOf(tin);
            case 2: return print.countOfTin(tin, false);
            case 3: return print.countOfTin(tin, true);
            default: return print.beatsOfTin(tin);
        }
    }

    public int soundOf(int sound, int what) throws IndexOutOfBoundsException, IllegalArgumentException {
        needPlace(print.hasSound(sound));
        needRange(isWithin(what, 0, 6));
        switch (what) {
            case 0: return print.tinOfSound(sound);
            case 1: return print.heightOf(sound);
            case 2: return print.beatsOf(sound);
            case 3: return print.pitchOf(sound);
            case 4: return print.partsOfSound(sound);
            case 5: return print.startOfSound(sound);
            default: return print.barAt(print.startOfSound(sound));
        }
    }

    public int barOf(int bar, int what) throws IndexOutOfBoundsException, IllegalArgumentException {
        needPlace(print.hasBar(bar));
        needRange(isWithin(what, 0, 4));
        switch (what) {
            case 0: return print.sizeOf(bar);
            case 1: return print.filledOfBar(bar);
            case 2: return print.partsOfBar(bar);
            case 3: return print.beginningsIn(bar);
            default: return print.startOfBar(bar);
        }
    }

    public int partOf(int bar, int place, int what) throws IndexOutOfBoundsException, IllegalArgumentException {
        needPlace(print.hasBar(bar));
        int sound = print.soundOfPart(bar, place);
        needPlace(sound != NONE);
        needRange(isWithin(what, 0, 2));
        switch (what) {
            case 0: return sound;
            case 1: return print.overlap(sound, bar);
            default: return print.isTied(sound, bar) ? 1 : 0;
        }
    }

    public int at(int beat) throws NoSuchElementException {
        return found(print.soundAt(beat));
    }

    // Faults and tunes

    public int faults(int rule, boolean isAgain) throws IllegalArgumentException {
        needRange(isWithin(rule, 1, RULES));
        return isAgain ? proof.countByBeats(rule) : proof.count(rule);
    }

    public int firstFault(int rule) throws IllegalArgumentException, NoSuchElementException {
        needRange(isWithin(rule, 1, RULES));
        return found(proof.first(rule));
    }

    public boolean isClean() {
        return proof.countAll() == 0;
    }

    public int wouldFault(int sound, int height) throws IndexOutOfBoundsException, IllegalArgumentException, NoSuchElementException {
        needPlace(print.hasSound(sound));
        needRange(isWithin(height, 0, MOST_HEIGHT));
        needElement(!print.isRest(sound));
        return proof.countWith(sound, height);
    }

    public int bestHeight(int sound) throws IndexOutOfBoundsException, NoSuchElementException {
        needPlace(print.hasSound(sound));
        needElement(!print.isRest(sound));
        int best = 0;
        int fewest = proof.countWith(sound, 0);
        for (int height = 1; height <= MOST_HEIGHT; height++) {
            int count = proof.countWith(sound, height);
            if (count < fewest) {
                fewest = count;
                best = height;
            }
        }
        return best;
    }

    public int walk(boolean isAgain) {
        return isAgain ? melody.wayBySteps() : melody.way();
    }

    public int goes(boolean isUp) {
        return melody.moves(isUp);
    }

    public int span() {
        return melody.width();
    }

    public int withPitch(int pitch) throws IllegalArgumentException {
        needRange(isWithin(pitch, 0, PITCHES - 1));
        return melody.dropsAt(pitch);
    }

    // Orders, lines, texts, accounts, undo and snapshot

    public int loudest(int place) throws NoSuchElementException {
        return found(ranking.tinAt(place));
    }

    public int highest(int place) throws NoSuchElementException {
        return found(ranking.dropAt(place));
    }

    public int line(int bar) throws IndexOutOfBoundsException {
        needPlace(print.hasBar(bar));
        return written.writeBar(bar);
    }

    public int tinLine(int tin) throws IndexOutOfBoundsException {
        needPlace(isTin(tin));
        return written.writeTin(tin);
    }

    public char character(int index) throws IndexOutOfBoundsException {
        needPlace(written.hasSign(index));
        return written.signAt(index);
    }

    public int append(char c) throws IllegalStateException {
        needState(!text.isFull());
        return text.add(c);
    }

    public int run() throws IllegalArgumentException, UnsupportedOperationException {
        needRange(text.read());
        beforeText.become(print);
        int verdict = carryOutText();
        if (verdict != FINE) {
            print.become(beforeText);
        }
        needConsent(verdict != REFUSED);
        needRange(verdict == FINE);
        history.keep(beforeText);
        return text.countOfOrders();
    }

    public int errorPosition() {
        return text.placeOfError();
    }

    public int refusal(boolean isDetail) throws NoSuchElementException {
        needElement(judge.hasRefused());
        return isDetail ? judge.latestDetail() : judge.latestReason();
    }

    public int account(int what) throws IllegalArgumentException {
        needRange(isWithin(what, 0, 11));
        switch (what) {
            case 0: return print.countOfBars();
            case 1: return print.allBeats();
            case 2: return print.filledBeats();
            case 3: return print.countOfSounds();
            case 4: return print.countOfSounds() - print.countOfRests();
            case 5: return print.countOfRests();
            case 6: return print.allParts();
            case 7: return print.limitNow();
            case 8: return print.setSoFar();
            case 9: return print.takenSoFar();
            case 10: return text.countOfSigns();
            default: return history.countOfChanges();
        }
    }

    public boolean isWell() {
        return proof.isToldAlike() && melody.way() == melody.wayBySteps()
            && print.arePartsWhole() && print.areBarsInBounds();
    }

    public double meanPitch() throws ArithmeticException {
        int drops = melody.countOfDrops();
        if (drops <= 0) {
            throw new ArithmeticException("there are no drops");
        }
        return (double) melody.sumOfPitches() / (double) drops;
    }

    public float filledShare() throws ArithmeticException {
        int beats = print.allBeats();
        if (beats <= 0) {
            throw new ArithmeticException("there are no bars");
        }
        return (float) print.filledBeats() / (float) beats;
    }

    public int undo() throws IllegalStateException {
        needState(history.countOfChanges() > 0);
        history.takeBack(print);
        return history.countOfChanges();
    }

    public int save() {
        saved.become(print);
        isSaved = true;
        return print.countOfSounds();
    }

    public int restore() throws IllegalStateException {
        needState(isSaved);
        print.become(saved);
        history.forget();
        return print.countOfSounds();
    }

    private int change(Order order, int first, int second, int third) {
        int verdict = judge.verdict(order, first, second, third);
        needPlace(verdict != NO_PLACE);
        needRange(verdict != OUT_OF_RANGE);
        needConsent(verdict != REFUSED);
        history.keep(print);
        return judge.carryOut(order, first, second, third);
    }

    private int carryOutText() {
        for (int i = 0; i < text.countOfOrders(); i++) {
            Order order = text.orderAt(i);
            int first = text.numberAt(i, 0);
            int second = text.numberAt(i, 1);
            int third = text.numberAt(i, 2);
            int verdict = judge.verdict(order, first, second, third);
            if (verdict != FINE) {
                return verdict;
            }
            judge.carryOut(order, first, second, third);
        }
        return FINE;
    }

    private static void needPlace(boolean isThere) {
        if (!isThere) {
            throw new IndexOutOfBoundsException("there is no such place");
        }
    }

    private static void needRange(boolean isRight) {
        if (!isRight) {
            throw new IllegalArgumentException("this is out of range, or cannot be read");
        }
    }

    private static void needConsent(boolean isGiven) {
        if (!isGiven) {
            throw new UnsupportedOperationException("this is refused");
        }
    }

    private static void needElement(boolean isThere) {
        if (!isThere) {
            throw new NoSuchElementException("there is none");
        }
    }

    private static void needState(boolean isRight) {
        if (!isRight) {
            throw new IllegalStateException("this cannot be done now");
        }
    }

    private static int found(int number) {
        needElement(number != NONE);
        return number;
    }

    private static boolean isWithin(int number, int least, int most) {
        return number >= least && number <= most;
    }

    private static boolean isTin(int tin) {
        return isWithin(tin, 0, TINS - 1);
    }

    private static int cell(int[] row, int index) {
        return index >= 0 && index < row.length ? row[index] : 0;
    }

    private static void put(int[] row, int index, int number) {
        if (index >= 0 && index < row.length) {
            row[index] = number;
        }
    }

    private static void copyRow(int[] from, int[] to) {
        for (int i = 0; i < to.length; i++) {
            put(to, i, cell(from, i));
        }
    }

    /** The digits are the most that each number may have, so that one reader serves all orders. */
    private enum Order {
        BAR("bar", "1"),
        KEY("key", "12"),
        LEAK("leak", "11"),
        DROP("drop", "111"),
        REST("rest", "1"),
        LIFT("lift", ""),
        LIMIT("limit", "2"),
        TUNE("tune", "21");

        private final String word;
        private final String digits;

        Order(String word, String digits) {
            this.word = word;
            this.digits = digits;
        }
    }

    /** All that changes can change, in one class, so that undo, save and a failing text bring it back whole. */
    private static final class Print {
        private final int[] sizes = new int[MOST_BARS];
        private final int[] keys = new int[TINS];
        private final int[] leaks = new int[TINS];
        private final int[] tins = new int[MOST_SOUNDS];
        private final int[] heights = new int[MOST_SOUNDS];
        private final int[] lengths = new int[MOST_SOUNDS];
        private int bars = 0;
        private int sounds = 0;
        private int farthest = FIRST_LIMIT;
        private int soundsSet = 0;
        private int soundsTaken = 0;

        private void become(Print other) {
            copyRow(other.sizes, sizes);
            copyRow(other.keys, keys);
            copyRow(other.leaks, leaks);
            copyRow(other.tins, tins);
            copyRow(other.heights, heights);
            copyRow(other.lengths, lengths);
            bars = other.bars;
            sounds = other.sounds;
            farthest = other.farthest;
            soundsSet = other.soundsSet;
            soundsTaken = other.soundsTaken;
        }

        private int addBar(int size) {
            put(sizes, bars, size);
            bars++;
            return bars - 1;
        }

        private int addSound(int tin, int height, int beats) {
            put(tins, sounds, tin);
            put(heights, sounds, height);
            put(lengths, sounds, beats);
            sounds++;
            soundsSet++;
            return sounds - 1;
        }

        private int takeLast() {
            sounds--;
            soundsTaken++;
            return cell(lengths, sounds);
        }

        private int setKey(int tin, int key) {
            int before = cell(keys, tin);
            put(keys, tin, key);
            return before;
        }

        private int setLeak(int tin, int beats) {
            int before = cell(leaks, tin);
            put(leaks, tin, beats);
            return before;
        }

        private int setHeight(int sound, int height) {
            int before = cell(heights, sound);
            put(heights, sound, height);
            return before;
        }

        private int setFarthest(int number) {
            int before = farthest;
            farthest = number;
            return before;
        }

        private int countOfBars() {
            return bars;
        }

        private int countOfSounds() {
            return sounds;
        }

        private int limitNow() {
            return farthest;
        }

        private int setSoFar() {
            return soundsSet;
        }

        private int takenSoFar() {
            return soundsTaken;
        }

        private boolean hasBar(int bar) {
            return isWithin(bar, 0, bars - 1);
        }

        private boolean hasSound(int sound) {
            return isWithin(sound, 0, sounds - 1);
        }

        private int keyOf(int tin) {
            return cell(keys, tin);
        }

        private int leakOf(int tin) {
            return cell(leaks, tin);
        }

        private int sizeOf(int bar) {
            return cell(sizes, bar);
        }

        private int tinOfSound(int sound) {
            return cell(tins, sound);
        }

        private int heightOf(int sound) {
            return cell(heights, sound);
        }

        private int beatsOf(int sound) {
            return cell(lengths, sound);
        }

        private boolean isRest(int sound) {
            return cell(heights, sound) == NONE;
        }

        private int pitchOf(int sound) {
            int height = cell(heights, sound);
            if (height == NONE) {
                return NONE;
            }
            int pitch = cell(keys, cell(tins, sound)) + height;
            return pitch >= PITCHES ? pitch - PITCHES : pitch;
        }

        private int dropAhead(int sound) {
            for (int i = sound - 1; i >= 0; i--) {
                if (cell(heights, i) != NONE) {
                    return i;
                }
            }
            return NONE;
        }

        private int countOfRests() {
            int rests = 0;
            for (int i = 0; i < sounds; i++) {
                rests += isRest(i) ? 1 : 0;
            }
            return rests;
        }

        private int countOfTin(int tin, boolean isOfRests) {
            int count = 0;
            for (int i = 0; i < sounds; i++) {
                count += cell(tins, i) == tin && isRest(i) == isOfRests ? 1 : 0;
            }
            return count;
        }

        private int beatsOfTin(int tin) {
            int beats = 0;
            for (int i = 0; i < sounds; i++) {
                beats += cell(tins, i) == tin ? cell(lengths, i) : 0;
            }
            return beats;
        }

        private int startOfBar(int bar) {
            int beat = 0;
            for (int i = 0; i < bar && i < sizes.length; i++) {
                beat += sizes[i];
            }
            return beat;
        }

        private int startOfSound(int sound) {
            int beat = 0;
            for (int i = 0; i < sound && i < lengths.length; i++) {
                beat += lengths[i];
            }
            return beat;
        }

        private int allBeats() {
            return startOfBar(bars);
        }

        private int filledBeats() {
            return startOfSound(sounds);
        }

        private int freeBeats() {
            return startOfBar(bars) - startOfSound(sounds);
        }

        private int barAt(int beat) {
            int end = 0;
            for (int i = 0; i < bars; i++) {
                end += cell(sizes, i);
                if (beat >= 0 && beat < end) {
                    return i;
                }
            }
            return NONE;
        }

        private int soundAt(int beat) {
            int end = 0;
            for (int i = 0; i < sounds; i++) {
                end += cell(lengths, i);
                if (beat >= 0 && beat < end) {
                    return i;
                }
            }
            return NONE;
        }

        private int overlap(int sound, int bar) {
            int barStart = startOfBar(bar);
            int soundStart = startOfSound(sound);
            int barEnd = barStart + cell(sizes, bar);
            int soundEnd = soundStart + cell(lengths, sound);
            return Math.max(0, Math.min(barEnd, soundEnd) - Math.max(barStart, soundStart));
        }

        private boolean isTied(int sound, int bar) {
            return startOfSound(sound) < startOfBar(bar);
        }

        private int partsOfSound(int sound) {
            int start = startOfSound(sound);
            return barAt(start + cell(lengths, sound) - 1) - barAt(start) + 1;
        }

        private int partsOfBar(int bar) {
            int parts = 0;
            for (int i = 0; i < sounds; i++) {
                parts += overlap(i, bar) > 0 ? 1 : 0;
            }
            return parts;
        }

        private int allParts() {
            int parts = 0;
            for (int i = 0; i < bars; i++) {
                parts += partsOfBar(i);
            }
            return parts;
        }

        private int beginningsIn(int bar) {
            int count = 0;
            for (int i = 0; i < sounds; i++) {
                count += barAt(startOfSound(i)) == bar ? 1 : 0;
            }
            return count;
        }

        private int filledOfBar(int bar) {
            int filled = filledBeats() - startOfBar(bar);
            return Math.max(0, Math.min(filled, cell(sizes, bar)));
        }

        private int soundOfPart(int bar, int place) {
            int next = 0;
            for (int i = 0; i < sounds; i++) {
                if (overlap(i, bar) > 0) {
                    if (next == place) {
                        return i;
                    }
                    next++;
                }
            }
            return NONE;
        }

        private boolean arePartsWhole() {
            for (int i = 0; i < sounds; i++) {
                int beats = 0;
                for (int j = 0; j < bars; j++) {
                    beats += overlap(i, j);
                }
                if (beats != cell(lengths, i)) {
                    return false;
                }
            }
            return true;
        }

        private boolean areBarsInBounds() {
            for (int i = 0; i < bars; i++) {
                int beats = 0;
                for (int j = 0; j < sounds; j++) {
                    beats += overlap(j, i);
                }
                if (beats > cell(sizes, i)) {
                    return false;
                }
            }
            return true;
        }
    }

    /** Apart from the print, as the latest refusal is neither undone nor saved. */
    private static final class Judge {
        private static final int IS_FULL = 1;
        private static final int IS_SO = 2;
        private static final int TOO_FEW_BEATS = 3;
        private static final int NO_LEAK = 4;
        private static final int NO_SOUND = 5;
        private static final int IS_REST = 6;

        private final Print print;
        private int reason = 0;
        private int detail = 0;

        private Judge(Print print) {
            this.print = print;
        }

        private boolean hasRefused() {
            return reason != 0;
        }

        private int latestReason() {
            return reason;
        }

        private int latestDetail() {
            return detail;
        }

        private int refuse(int why, int number) {
            reason = why;
            detail = number;
            return REFUSED;
        }

        private int verdict(Order order, int first, int second, int third) {
            if (order == Order.BAR) {
                return verdictOnBar(first);
            }
            if (order == Order.KEY) {
                return verdictOnTin(first, second, print.keyOf(first), PITCHES - 1);
            }
            if (order == Order.LEAK) {
                return verdictOnTin(first, second, print.leakOf(first), MOST_LEAK);
            }
            if (order == Order.DROP) {
                return verdictOnDrop(first, second, third);
            }
            if (order == Order.REST) {
                return verdictOnRest(first);
            }
            if (order == Order.LIFT) {
                return print.countOfSounds() > 0 ? FINE : refuse(NO_SOUND, print.countOfBars());
            }
            if (order == Order.LIMIT) {
                return verdictOnLimit(first);
            }
            if (order == Order.TUNE) {
                return verdictOnTune(first, second);
            }
            return OUT_OF_RANGE;
        }

        private int verdictOnBar(int size) {
            if (!isWithin(size, LEAST_SIZE, MOST_BEATS)) {
                return OUT_OF_RANGE;
            }
            return print.countOfBars() < MOST_BARS ? FINE : refuse(IS_FULL, MOST_BARS);
        }

        private int verdictOnTin(int tin, int number, int before, int most) {
            if (!isTin(tin)) {
                return NO_PLACE;
            }
            if (!isWithin(number, 0, most)) {
                return OUT_OF_RANGE;
            }
            return number != before ? FINE : refuse(IS_SO, number);
        }

        private int verdictOnDrop(int tin, int height, int beats) {
            if (!isTin(tin)) {
                return NO_PLACE;
            }
            if (!isWithin(height, 0, MOST_HEIGHT) || !isWithin(beats, 1, MOST_BEATS)) {
                return OUT_OF_RANGE;
            }
            return verdictOnRoom(beats);
        }

        private int verdictOnRest(int tin) {
            if (!isTin(tin)) {
                return NO_PLACE;
            }
            if (print.leakOf(tin) == 0) {
                return refuse(NO_LEAK, print.keyOf(tin));
            }
            return verdictOnRoom(print.leakOf(tin));
        }

        private int verdictOnRoom(int beats) {
            if (print.countOfSounds() >= MOST_SOUNDS) {
                return refuse(IS_FULL, MOST_SOUNDS);
            }
            int free = print.freeBeats();
            return beats <= free ? FINE : refuse(TOO_FEW_BEATS, free);
        }

        private int verdictOnLimit(int number) {
            if (!isWithin(number, 1, PITCHES - 1)) {
                return OUT_OF_RANGE;
            }
            return number != print.limitNow() ? FINE : refuse(IS_SO, number);
        }

        private int verdictOnTune(int sound, int height) {
            if (!print.hasSound(sound)) {
                return NO_PLACE;
            }
            if (!isWithin(height, 0, MOST_HEIGHT)) {
                return OUT_OF_RANGE;
            }
            if (print.isRest(sound)) {
                return refuse(IS_REST, print.beatsOf(sound));
            }
            return height != print.heightOf(sound) ? FINE : refuse(IS_SO, height);
        }

        private int carryOut(Order order, int first, int second, int third) {
            if (order == Order.BAR) {
                return print.addBar(first);
            }
            if (order == Order.KEY) {
                return print.setKey(first, second);
            }
            if (order == Order.LEAK) {
                return print.setLeak(first, second);
            }
            if (order == Order.DROP) {
                return print.addSound(first, second, third);
            }
            if (order == Order.REST) {
                return print.addSound(first, NONE, print.leakOf(first));
            }
            if (order == Order.LIFT) {
                return print.takeLast();
            }
            if (order == Order.LIMIT) {
                return print.setFarthest(first);
            }
            return print.setHeight(first, second);
        }
    }

    /** The way by beats shares no count with the other one, so that isWell tells something. */
    private static final class Proof {
        private final Print print;

        private Proof(Print print) {
            this.print = print;
        }

        private boolean isFault(int rule, int number) {
            if (rule == RULE_BAR) {
                int sound = print.soundAt(print.startOfBar(number));
                return sound != NONE && print.isRest(sound);
            }
            boolean isRest = print.isRest(number);
            if (rule == RULE_FAR) {
                return !isRest && isFar(number);
            }
            if (rule == RULE_SAME) {
                return !isRest && isSame(number) && isSame(print.dropAhead(number));
            }
            return print.partsOfSound(number) > mostParts(isRest);
        }

        private boolean isFar(int drop) {
            int ahead = print.dropAhead(drop);
            return ahead != NONE && Math.abs(print.pitchOf(drop) - print.pitchOf(ahead)) > print.limitNow();
        }

        private boolean isSame(int drop) {
            int ahead = print.dropAhead(drop);
            return ahead != NONE && print.pitchOf(drop) == print.pitchOf(ahead);
        }

        private static int mostParts(boolean isRest) {
            return isRest ? 1 : 2;
        }

        private int places(int rule) {
            return rule == RULE_BAR ? print.countOfBars() : print.countOfSounds();
        }

        private int count(int rule) {
            int count = 0;
            int end = places(rule);
            for (int i = 0; i < end; i++) {
                count += isFault(rule, i) ? 1 : 0;
            }
            return count;
        }

        private int first(int rule) {
            int end = places(rule);
            for (int i = 0; i < end; i++) {
                if (isFault(rule, i)) {
                    return i;
                }
            }
            return NONE;
        }

        private int countAll() {
            int count = 0;
            for (int rule = 1; rule <= RULES; rule++) {
                count += count(rule);
            }
            return count;
        }

        private int countByBeats(int rule) {
            if (rule == RULE_BAR) {
                return restsAtBars();
            }
            return rule == RULE_FAR || rule == RULE_SAME ? pitchesByBeats(rule) : tiesByBeats();
        }

        private int pitchesByBeats(int rule) {
            int count = 0;
            int ahead = NONE;
            int farAhead = NONE;
            int end = print.filledBeats();
            for (int beat = 0; beat < end; beat++) {
                int sound = print.soundAt(beat);
                if (sound == print.soundAt(beat - 1) || print.isRest(sound)) {
                    continue;
                }
                int pitch = print.pitchOf(sound);
                boolean isFar = ahead != NONE && Math.abs(pitch - ahead) > print.limitNow();
                boolean isSame = pitch == ahead && pitch == farAhead;
                count += (rule == RULE_FAR ? isFar : isSame) ? 1 : 0;
                farAhead = ahead;
                ahead = pitch;
            }
            return count;
        }

        private int restsAtBars() {
            int count = 0;
            int end = print.filledBeats();
            for (int beat = 0; beat < end; beat++) {
                boolean isFirst = print.barAt(beat) != print.barAt(beat - 1);
                count += isFirst && print.isRest(print.soundAt(beat)) ? 1 : 0;
            }
            return count;
        }

        private int tiesByBeats() {
            int count = 0;
            int parts = 0;
            int end = print.filledBeats();
            for (int beat = 0; beat < end; beat++) {
                int sound = print.soundAt(beat);
                boolean isNew = sound != print.soundAt(beat - 1);
                if (!isNew && print.barAt(beat) == print.barAt(beat - 1)) {
                    continue;
                }
                parts = isNew ? 1 : parts + 1;
                // Only the first part too many counts, so that a longer sound is no second fault.
                count += parts == mostParts(print.isRest(sound)) + 1 ? 1 : 0;
            }
            return count;
        }

        private int countWith(int drop, int height) {
            int before = print.setHeight(drop, height);
            int count = countAll();
            print.setHeight(drop, before);
            return count;
        }

        private boolean isToldAlike() {
            for (int rule = 1; rule <= RULES; rule++) {
                if (count(rule) != countByBeats(rule)) {
                    return false;
                }
            }
            return true;
        }
    }

    private static final class Melody {
        private final Print print;

        private Melody(Print print) {
            this.print = print;
        }

        private int way() {
            int way = 0;
            for (int i = 0; i < print.countOfSounds(); i++) {
                way += Math.abs(riseTo(i));
            }
            return way;
        }

        private int wayBySteps() {
            int way = 0;
            for (int step = 0; step < PITCHES - 1; step++) {
                way += timesOver(step);
            }
            return way;
        }

        private int timesOver(int step) {
            int times = 0;
            int ahead = NONE;
            for (int i = 0; i < print.countOfSounds(); i++) {
                int pitch = print.pitchOf(i);
                if (pitch == NONE) {
                    continue;
                }
                times += ahead != NONE && (pitch > step) != (ahead > step) ? 1 : 0;
                ahead = pitch;
            }
            return times;
        }

        private int riseTo(int sound) {
            int ahead = print.dropAhead(sound);
            if (ahead == NONE || print.isRest(sound)) {
                return 0;
            }
            return print.pitchOf(sound) - print.pitchOf(ahead);
        }

        private int moves(boolean isUp) {
            int count = 0;
            for (int i = 0; i < print.countOfSounds(); i++) {
                int rise = riseTo(i);
                count += (isUp ? rise > 0 : rise < 0) ? 1 : 0;
            }
            return count;
        }

        private int width() {
            int lowest = PITCHES;
            int top = NONE;
            for (int i = 0; i < print.countOfSounds(); i++) {
                int pitch = print.pitchOf(i);
                if (pitch != NONE) {
                    lowest = Math.min(lowest, pitch);
                    top = Math.max(top, pitch);
                }
            }
            return top == NONE ? 0 : top - lowest;
        }

        private int dropsAt(int pitch) {
            int count = 0;
            for (int i = 0; i < print.countOfSounds(); i++) {
                count += print.pitchOf(i) == pitch ? 1 : 0;
            }
            return count;
        }

        private int countOfDrops() {
            return print.countOfSounds() - print.countOfRests();
        }

        private int sumOfPitches() {
            int sum = 0;
            for (int i = 0; i < print.countOfSounds(); i++) {
                sum += Math.max(0, print.pitchOf(i));
            }
            return sum;
        }
    }

    /** A place is how many go ahead: nothing is sorted, so that no call makes rows. */
    private static final class Ranking {
        private final Print print;

        private Ranking(Print print) {
            this.print = print;
        }

        private int tinAt(int place) {
            for (int tin = 0; tin < TINS; tin++) {
                if (placeOfTin(tin) == place) {
                    return tin;
                }
            }
            return NONE;
        }

        private int placeOfTin(int tin) {
            int ahead = 0;
            for (int other = 0; other < TINS; other++) {
                ahead += isTinAhead(other, tin) ? 1 : 0;
            }
            return ahead;
        }

        private boolean isTinAhead(int one, int other) {
            int more = print.beatsOfTin(one) - print.beatsOfTin(other);
            if (more != 0) {
                return more > 0;
            }
            int greater = print.keyOf(one) - print.keyOf(other);
            return greater != 0 ? greater > 0 : one < other;
        }

        private int dropAt(int place) {
            for (int drop = 0; drop < print.countOfSounds(); drop++) {
                if (!print.isRest(drop) && placeOfDrop(drop) == place) {
                    return drop;
                }
            }
            return NONE;
        }

        private int placeOfDrop(int drop) {
            int ahead = 0;
            for (int other = 0; other < print.countOfSounds(); other++) {
                ahead += !print.isRest(other) && isDropAhead(other, drop) ? 1 : 0;
            }
            return ahead;
        }

        private boolean isDropAhead(int one, int other) {
            int higher = print.pitchOf(one) - print.pitchOf(other);
            if (higher != 0) {
                return higher > 0;
            }
            int longer = print.beatsOf(one) - print.beatsOf(other);
            return longer != 0 ? longer > 0 : one < other;
        }
    }

    /** Apart from the print, as the line is neither undone nor saved. */
    private static final class Line {
        private final Print print;
        private final char[] signs = new char[LONGEST_LINE];
        private int length = 0;

        private Line(Print print) {
            this.print = print;
        }

        private boolean hasSign(int index) {
            return isWithin(index, 0, length - 1);
        }

        private char signAt(int index) {
            return index >= 0 && index < signs.length ? signs[index] : ' ';
        }

        private int writeBar(int bar) {
            length = 0;
            for (int i = 0; i < print.countOfSounds(); i++) {
                if (print.overlap(i, bar) > 0) {
                    addPart(i, bar);
                    addSign(' ');
                }
            }
            addSign('_');
            addNumber(print.sizeOf(bar) - print.filledOfBar(bar));
            return length;
        }

        private void addPart(int sound, int bar) {
            if (print.isTied(sound, bar)) {
                addSign('~');
            }
            addSign(print.isRest(sound) ? '.' : (char) ('a' + print.pitchOf(sound)));
            addNumber(print.overlap(sound, bar));
        }

        private int writeTin(int tin) {
            length = 0;
            addNumber(print.keyOf(tin));
            addSign('/');
            addNumber(print.leakOf(tin));
            return length;
        }

        private void addNumber(int number) {
            if (number >= 10) {
                addSign((char) ('0' + number / 10));
            }
            addSign((char) ('0' + number % 10));
        }

        private void addSign(char sign) {
            if (length >= 0 && length < signs.length) {
                signs[length] = sign;
                length++;
            }
        }
    }

    /** Apart from the print, as the input and the error position are neither undone nor saved. */
    private static final class Text {
        private final char[] signs = new char[MOST_SIGNS];
        private final Order[] orders = new Order[MOST_ORDERS];
        private final int[] numbers = new int[MOST_ORDERS * MOST_NUMBERS];
        private int length = 0;
        private int position = 0;
        private int count = 0;
        private int error = NONE;

        private boolean isFull() {
            return length >= signs.length;
        }

        private int add(char sign) {
            if (length >= 0 && length < signs.length) {
                signs[length] = sign;
                length++;
            }
            return length;
        }

        private int countOfSigns() {
            return length;
        }

        private int placeOfError() {
            return error;
        }

        private int countOfOrders() {
            return count;
        }

        private Order orderAt(int index) {
            return index >= 0 && index < orders.length ? orders[index] : null;
        }

        private int numberAt(int index, int place) {
            return cell(numbers, index * MOST_NUMBERS + place);
        }

        private boolean read() {
            position = 0;
            count = 0;
            boolean isRight = readOrders();
            error = isRight ? NONE : position;
            length = 0;
            return isRight;
        }

        private boolean readOrders() {
            for (int i = 0; i < MOST_ORDERS; i++) {
                if (!readOrder()) {
                    return false;
                }
                if (position == length) {
                    return true;
                }
                if (!take(';')) {
                    return false;
                }
            }
            return false;
        }

        private boolean readOrder() {
            Order order = readWord();
            if (order == null || count < 0 || count >= orders.length) {
                return false;
            }
            for (int i = 0; i < order.digits.length(); i++) {
                int number = take(' ') ? readNumber(order.digits.charAt(i) - '0') : NONE;
                if (number == NONE) {
                    return false;
                }
                put(numbers, count * MOST_NUMBERS + i, number);
            }
            orders[count] = order;
            count++;
            return true;
        }

        // No word begins with another one, so the first that stands there whole is the one.
        private Order readWord() {
            int most = 0;
            for (int i = 0; i < ORDERS.length; i++) {
                Order order = ORDERS[i];
                int letters = lettersOf(order.word);
                if (letters == order.word.length()) {
                    position += letters;
                    return order;
                }
                most = Math.max(most, letters);
            }
            position += most;
            return null;
        }

        private int lettersOf(String word) {
            for (int i = 0; i < word.length(); i++) {
                if (!isSign(position + i, word.charAt(i))) {
                    return i;
                }
            }
            return word.length();
        }

        private int readNumber(int mostDigits) {
            int first = readDigit();
            if (first == NONE || mostDigits < 2) {
                return first;
            }
            int second = readDigit();
            return second == NONE ? first : 10 * first + second;
        }

        private int readDigit() {
            int index = position;
            if (index < 0 || index >= length || index >= signs.length) {
                return NONE;
            }
            int digit = signs[index] - '0';
            if (!isWithin(digit, 0, 9)) {
                return NONE;
            }
            position++;
            return digit;
        }

        private boolean take(char sign) {
            if (!isSign(position, sign)) {
                return false;
            }
            position++;
            return true;
        }

        private boolean isSign(int index, char sign) {
            return index >= 0 && index < length && index < signs.length && signs[index] == sign;
        }
    }

    /** A ring of pages made once, as what all calls make is counted. */
    private static final class History {
        private final Print[] pages = new Print[MOST_UNDONE];
        private int next = 0;
        private int count = 0;

        private History() {
            for (int i = 0; i < pages.length; i++) {
                pages[i] = new Print();
            }
        }

        private int countOfChanges() {
            return count;
        }

        private void keep(Print print) {
            Print page = pageAt(next);
            if (page != null) {
                page.become(print);
                next = (next + 1) % MOST_UNDONE;
                count = Math.min(count + 1, MOST_UNDONE);
            }
        }

        private void takeBack(Print print) {
            int latest = (next + MOST_UNDONE - 1) % MOST_UNDONE;
            Print page = pageAt(latest);
            if (page != null) {
                print.become(page);
                next = latest;
                count--;
            }
        }

        private void forget() {
            count = 0;
        }

        private Print pageAt(int index) {
            return index >= 0 && index < pages.length ? pages[index] : null;
        }
    }
}
