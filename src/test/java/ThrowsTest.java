import java.util.NoSuchElementException;

/**
 * Each row of 'Throws': what is thrown, also where several exceptions apply, and that the state stays, as a
 * twin of the object tells that has not had the call.
 */
public final class ThrowsTest {
    private static final Class<IndexOutOfBoundsException> INDEX = IndexOutOfBoundsException.class;
    private static final Class<IllegalArgumentException> ARGUMENT = IllegalArgumentException.class;
    private static final Class<NoSuchElementException> ELEMENT = NoSuchElementException.class;
    private static final Class<IllegalStateException> STATE = IllegalStateException.class;
    private static final Class<ArithmeticException> ARITHMETIC = ArithmeticException.class;
    private static final Due.Maker NEW = TinRoofScore::new;
    private static final Due.Maker SONG = ThrowsTest::song;
    private static final Due.Maker FULL = ThrowsTest::full;
    private static final int LEAST = Integer.MIN_VALUE;
    private static final int MOST = Integer.MAX_VALUE;

    private ThrowsTest() {
    }

    public static void main(String[] args) {
        bar();
        key();
        leak();
        drop();
        rest();
        lift();
        limit();
        tune();
        tinOf();
        soundOf();
        barOf();
        partOf();
        at();
        faults();
        wouldFault();
        bestHeight();
        withPitch();
        places();
        lines();
        append();
        runOfWrongTexts();
        runOfRefusedTexts();
        refusal();
        account();
        means();
        undo();
        restore();
        Due.end();
    }

    /** Bars of 4, 4, 3: c2 .2 | b3 j1 | ~j1, with two beats free, and something in all that can be kept. */
    private static TinRoofScore song() {
        TinRoofScore x = new TinRoofScore();
        Due.runText(x, "bar 4;bar 4;key 1 10;leak 1 2;drop 0 2 2;rest 1");
        x.save();
        x.bar(3);
        x.drop(1, 3, 3);
        x.drop(0, 9, 2);
        x.line(1);
        Due.runText(x, "bax");
        Due.outcome(() -> x.tune(1, 0));
        x.append('l');
        return x;
    }

    /** Six bars of 8 beats and 16 drops, with beats free. */
    private static TinRoofScore full() {
        TinRoofScore x = new TinRoofScore();
        Due.runText(x, "bar 8;bar 8;bar 8;bar 8;bar 8;bar 8;leak 2 3;key 3 5");
        for (int i = 0; i < 16; i++) {
            x.drop(0, i % 10, 1);
        }
        x.save();
        x.tinLine(3);
        Due.outcome(x::run);
        Due.outcome(() -> x.limit(4));
        return x;
    }

    private static void bar() {
        for (int size : new int[] {LEAST, -1, 0, 1, 9, 10, MOST}) {
            Due.keeps("bar " + size, ARGUMENT, SONG, x -> x.bar(size));
            Due.keeps("bar " + size + " with 6 bars", ARGUMENT, FULL, x -> x.bar(size));
        }
        Due.refuses("bar with 6 bars", 1, 6, FULL, x -> x.bar(2));
    }

    private static void key() {
        for (int tin : new int[] {LEAST, -1, 4, MOST}) {
            Due.keeps("key of " + tin, INDEX, SONG, x -> x.key(tin, 5));
            Due.keeps("key 0 of " + tin, INDEX, SONG, x -> x.key(tin, 0));
            Due.keeps("key 12 of " + tin, INDEX, SONG, x -> x.key(tin, 12));
        }
        for (int key : new int[] {LEAST, -1, 12, MOST}) {
            Due.keeps("key " + key, ARGUMENT, SONG, x -> x.key(1, key));
        }
        Due.refuses("key so already", 2, 10, SONG, x -> x.key(1, 10));
        Due.refuses("key 0 so already", 2, 0, SONG, x -> x.key(0, 0));
    }

    private static void leak() {
        for (int tin : new int[] {LEAST, -1, 4, MOST}) {
            Due.keeps("leak of " + tin, INDEX, SONG, x -> x.leak(tin, 1));
            Due.keeps("leak 0 of " + tin, INDEX, SONG, x -> x.leak(tin, 0));
            Due.keeps("leak 4 of " + tin, INDEX, SONG, x -> x.leak(tin, 4));
        }
        for (int leak : new int[] {LEAST, -1, 4, MOST}) {
            Due.keeps("leak " + leak, ARGUMENT, SONG, x -> x.leak(1, leak));
        }
        Due.refuses("leak so already", 2, 2, SONG, x -> x.leak(1, 2));
        Due.refuses("leak 0 so already", 2, 0, SONG, x -> x.leak(3, 0));
    }

    private static void drop() {
        for (int tin : new int[] {LEAST, -1, 4, MOST}) {
            Due.keeps("drop of " + tin, INDEX, SONG, x -> x.drop(tin, 0, 1));
            Due.keeps("drop of " + tin + ", too high", INDEX, SONG, x -> x.drop(tin, 10, 1));
            Due.keeps("drop of " + tin + ", no beats", INDEX, SONG, x -> x.drop(tin, 0, 0));
            Due.keeps("drop of " + tin + ", no room", INDEX, SONG, x -> x.drop(tin, 0, 3));
            Due.keeps("drop of " + tin + ", 16 sounds", INDEX, FULL, x -> x.drop(tin, 0, 1));
        }
        for (int height : new int[] {LEAST, -1, 10, MOST}) {
            Due.keeps("drop height " + height, ARGUMENT, SONG, x -> x.drop(0, height, 1));
            Due.keeps("drop height " + height + ", no room", ARGUMENT, SONG, x -> x.drop(0, height, 3));
            Due.keeps("drop height " + height + ", 16 sounds", ARGUMENT, FULL, x -> x.drop(0, height, 1));
        }
        for (int beats : new int[] {LEAST, -1, 0, 9, MOST}) {
            Due.keeps("drop beats " + beats, ARGUMENT, SONG, x -> x.drop(0, 0, beats));
            Due.keeps("drop beats " + beats + ", 16 sounds", ARGUMENT, FULL, x -> x.drop(0, 0, beats));
        }
        Due.refuses("drop of one beat too many", 3, 2, SONG, x -> x.drop(0, 0, 3));
        Due.refuses("drop of 8", 3, 2, SONG, x -> x.drop(3, 9, 8));
        Due.refuses("17th drop", 1, 16, FULL, x -> x.drop(0, 0, 1));
        Due.refuses("drop without bars", 3, 0, NEW, x -> x.drop(0, 0, 1));
    }

    private static void rest() {
        for (int tin : new int[] {LEAST, -1, 4, MOST}) {
            Due.keeps("rest of " + tin, INDEX, SONG, x -> x.rest(tin));
            Due.keeps("rest of " + tin + ", 16 sounds", INDEX, FULL, x -> x.rest(tin));
            Due.keeps("rest of " + tin + ", no bars", INDEX, NEW, x -> x.rest(tin));
        }
        Due.refuses("rest of no leak", 4, 0, SONG, x -> x.rest(2));
        Due.refuses("rest of no leak, 16 sounds", 4, 5, FULL, x -> x.rest(3));
        Due.refuses("rest of no leak, no bars", 4, 0, NEW, x -> x.rest(0));
        Due.refuses("17th rest", 1, 16, FULL, x -> x.rest(2));
        Due.refuses("rest of one beat too many", 3, 2, () -> leaking(3), x -> x.rest(2));
        Due.is("rest of all free beats", leaking(2).rest(2), 4);
    }

    private static TinRoofScore leaking(int beats) {
        TinRoofScore x = song();
        x.leak(2, beats);
        return x;
    }

    private static void lift() {
        Due.refuses("lift without bars", 5, 0, NEW, TinRoofScore::lift);
        Due.refuses("lift without sounds", 5, 2, ThrowsTest::twoBars, TinRoofScore::lift);
    }

    private static TinRoofScore twoBars() {
        TinRoofScore x = new TinRoofScore();
        x.bar(2);
        x.bar(3);
        return x;
    }

    private static void limit() {
        for (int limit : new int[] {LEAST, -1, 0, 12, MOST}) {
            Due.keeps("limit " + limit, ARGUMENT, SONG, x -> x.limit(limit));
        }
        Due.refuses("limit so already", 2, 4, SONG, x -> x.limit(4));
    }

    private static void tune() {
        for (int sound : new int[] {LEAST, -1, 4, 16, MOST}) {
            Due.keeps("tune of " + sound, INDEX, SONG, x -> x.tune(sound, 0));
            Due.keeps("tune of " + sound + ", too high", INDEX, SONG, x -> x.tune(sound, 10));
            Due.keeps("tune of " + sound + ", too low", INDEX, SONG, x -> x.tune(sound, -1));
        }
        for (int height : new int[] {LEAST, -1, 10, MOST}) {
            Due.keeps("tune to " + height, ARGUMENT, SONG, x -> x.tune(0, height));
            Due.keeps("tune a rest to " + height, ARGUMENT, SONG, x -> x.tune(1, height));
        }
        Due.keeps("tune of 16 sounds", INDEX, FULL, x -> x.tune(16, 0));
        Due.refuses("tune a rest", 6, 2, SONG, x -> x.tune(1, 0));
        Due.refuses("tune so already", 2, 9, SONG, x -> x.tune(3, 9));
        Due.refuses("tune the first so already", 2, 2, SONG, x -> x.tune(0, 2));
    }

    private static void tinOf() {
        for (int tin : new int[] {LEAST, -1, 4, MOST}) {
            Due.keeps("tinOf " + tin, INDEX, SONG, x -> x.tinOf(tin, 0));
            Due.keeps("tinOf " + tin + " 5", INDEX, SONG, x -> x.tinOf(tin, 5));
        }
        for (int what : new int[] {LEAST, -1, 5, MOST}) {
            Due.keeps("tinOf what " + what, ARGUMENT, SONG, x -> x.tinOf(3, what));
        }
    }

    private static void soundOf() {
        for (int sound : new int[] {LEAST, -1, 4, 16, MOST}) {
            Due.keeps("soundOf " + sound, INDEX, SONG, x -> x.soundOf(sound, 0));
            Due.keeps("soundOf " + sound + " 7", INDEX, SONG, x -> x.soundOf(sound, 7));
        }
        for (int what : new int[] {LEAST, -1, 7, MOST}) {
            Due.keeps("soundOf what " + what, ARGUMENT, SONG, x -> x.soundOf(1, what));
        }
        Due.keeps("soundOf without sounds", INDEX, NEW, x -> x.soundOf(0, 0));
        Due.keeps("soundOf 16 with all", INDEX, FULL, x -> x.soundOf(16, 0));
        Due.is("soundOf 15 with all", full().soundOf(15, 5), 15);
    }

    private static void barOf() {
        for (int bar : new int[] {LEAST, -1, 3, 6, MOST}) {
            Due.keeps("barOf " + bar, INDEX, SONG, x -> x.barOf(bar, 0));
            Due.keeps("barOf " + bar + " 5", INDEX, SONG, x -> x.barOf(bar, 5));
        }
        for (int what : new int[] {LEAST, -1, 5, MOST}) {
            Due.keeps("barOf what " + what, ARGUMENT, SONG, x -> x.barOf(2, what));
        }
        Due.keeps("barOf without bars", INDEX, NEW, x -> x.barOf(0, 0));
        Due.keeps("barOf 6 with all", INDEX, FULL, x -> x.barOf(6, 0));
        Due.is("barOf 5 with all", full().barOf(5, 4), 40);
    }

    private static void partOf() {
        for (int bar : new int[] {LEAST, -1, 3, 6, MOST}) {
            Due.keeps("partOf " + bar, INDEX, SONG, x -> x.partOf(bar, 0, 0));
            Due.keeps("partOf " + bar + " 9 3", INDEX, SONG, x -> x.partOf(bar, 9, 3));
        }
        for (int place : new int[] {LEAST, -1, 2, MOST}) {
            Due.keeps("partOf place " + place, INDEX, SONG, x -> x.partOf(1, place, 0));
            Due.keeps("partOf place " + place + " 3", INDEX, SONG, x -> x.partOf(1, place, 3));
        }
        for (int what : new int[] {LEAST, -1, 3, MOST}) {
            Due.keeps("partOf what " + what, ARGUMENT, SONG, x -> x.partOf(2, 0, what));
        }
        Due.keeps("partOf a bar without parts", INDEX, FULL, x -> x.partOf(2, 0, 0));
        Due.keeps("partOf behind 8 parts", INDEX, FULL, x -> x.partOf(1, 8, 0));
        Due.is("the 8th of 8 parts", full().partOf(1, 7, 0), 15);
    }

    private static void at() {
        for (int beat : new int[] {LEAST, -1, 9, 10, 11, MOST}) {
            Due.keeps("at " + beat, ELEMENT, SONG, x -> x.at(beat));
        }
        Due.is("at the last filled beat", song().at(8), 3);
        Due.keeps("at without bars", ELEMENT, NEW, x -> x.at(0));
        Due.keeps("at without sounds", ELEMENT, ThrowsTest::twoBars, x -> x.at(0));
    }

    private static void faults() {
        for (int rule : new int[] {LEAST, -1, 0, 5, MOST}) {
            Due.keeps("faults of " + rule, ARGUMENT, SONG, x -> x.faults(rule, false));
            Due.keeps("faults of " + rule + " again", ARGUMENT, SONG, x -> x.faults(rule, true));
            Due.keeps("firstFault of " + rule, ARGUMENT, SONG, x -> x.firstFault(rule));
            Due.keeps("firstFault of " + rule + ", nothing there", ARGUMENT, NEW, x -> x.firstFault(rule));
        }
        for (int rule = 1; rule <= 4; rule++) {
            int right = rule;
            Due.keeps("firstFault of " + rule + ", nothing there", ELEMENT, NEW, x -> x.firstFault(right));
            Due.is("faults of " + rule + ", nothing there", new TinRoofScore().faults(rule, true), 0);
        }
        Due.is("firstFault of 1", song().firstFault(1), 3);
        Due.keeps("firstFault of 2", ELEMENT, SONG, x -> x.firstFault(2));
        Due.keeps("firstFault of 3", ELEMENT, SONG, x -> x.firstFault(3));
        Due.keeps("firstFault of 4", ELEMENT, SONG, x -> x.firstFault(4));
    }

    private static void wouldFault() {
        for (int sound : new int[] {LEAST, -1, 4, 16, MOST}) {
            Due.keeps("wouldFault " + sound, INDEX, SONG, x -> x.wouldFault(sound, 0));
            Due.keeps("wouldFault " + sound + " 10", INDEX, SONG, x -> x.wouldFault(sound, 10));
        }
        for (int height : new int[] {LEAST, -1, 10, MOST}) {
            Due.keeps("wouldFault to " + height, ARGUMENT, SONG, x -> x.wouldFault(0, height));
            Due.keeps("wouldFault of a rest to " + height, ARGUMENT, SONG, x -> x.wouldFault(1, height));
        }
        Due.keeps("wouldFault of a rest", ELEMENT, SONG, x -> x.wouldFault(1, 0));
        Due.keeps("wouldFault without sounds", INDEX, NEW, x -> x.wouldFault(0, 0));
    }

    private static void bestHeight() {
        for (int sound : new int[] {LEAST, -1, 4, 16, MOST}) {
            Due.keeps("bestHeight " + sound, INDEX, SONG, x -> x.bestHeight(sound));
        }
        Due.keeps("bestHeight of a rest", ELEMENT, SONG, x -> x.bestHeight(1));
        Due.keeps("bestHeight without sounds", INDEX, NEW, x -> x.bestHeight(0));
    }

    private static void withPitch() {
        for (int pitch : new int[] {LEAST, -1, 12, MOST}) {
            Due.keeps("withPitch " + pitch, ARGUMENT, SONG, x -> x.withPitch(pitch));
        }
        Due.is("withPitch 11, nothing there", new TinRoofScore().withPitch(11), 0);
        Due.is("withPitch 0, nothing there", new TinRoofScore().withPitch(0), 0);
    }

    private static void places() {
        for (int place : new int[] {LEAST, -1, 4, MOST}) {
            Due.keeps("loudest " + place, ELEMENT, SONG, x -> x.loudest(place));
        }
        Due.is("loudest 3, nothing there", new TinRoofScore().loudest(3), 3);
        for (int place : new int[] {LEAST, -1, 3, 4, MOST}) {
            Due.keeps("highest " + place, ELEMENT, SONG, x -> x.highest(place));
        }
        Due.is("highest 2 of three drops", song().highest(2), 2);
        Due.keeps("highest of nothing", ELEMENT, NEW, x -> x.highest(0));
        Due.keeps("highest 16 of 16", ELEMENT, FULL, x -> x.highest(16));
        Due.is("highest 15 of 16", full().highest(15), 10);
    }

    private static void lines() {
        for (int bar : new int[] {LEAST, -1, 3, 6, MOST}) {
            Due.keeps("line " + bar, INDEX, SONG, x -> x.line(bar));
        }
        Due.keeps("line without bars", INDEX, NEW, x -> x.line(0));
        Due.keeps("line 6 with all bars", INDEX, FULL, x -> x.line(6));
        for (int tin : new int[] {LEAST, -1, 4, MOST}) {
            Due.keeps("tinLine " + tin, INDEX, SONG, x -> x.tinLine(tin));
        }
        for (int index : new int[] {LEAST, -1, 8, MOST}) {
            Due.keeps("character " + index, INDEX, SONG, x -> x.character(index));
        }
        Due.is("the last character", song().character(7), '0');
        Due.keeps("character of an empty line", INDEX, NEW, x -> x.character(0));
    }

    private static void append() {
        Due.keeps("append the 61st", STATE, ThrowsTest::typed, x -> x.append('b'));
        TinRoofScore x = typed();
        Due.outcome(() -> x.append('x'));
        Due.is("the 60 are as they were", Due.outcome(x::run), 12);
    }

    /** The input has 60 characters, as "lift" twelve times would have 59. */
    private static TinRoofScore typed() {
        TinRoofScore x = new TinRoofScore();
        Due.runText(x, "bar 8;bar 8");
        for (int i = 0; i < 12; i++) {
            x.drop(0, i % 10, 1);
        }
        for (char c : "bar 2;lift;lift;lift;lift;lift;lift;lift;lift;lift;lift;lift".toCharArray()) {
            x.append(c);
        }
        return x;
    }

    private static TinRoofScore typed(String text) {
        TinRoofScore x = song();
        x.append('x');
        Due.outcome(x::run);
        for (char c : text.toCharArray()) {
            x.append(c);
        }
        return x;
    }

    // All but the input and the error position stays, as the twin has it that has not run the text.
    private static void afterRun(String text, Object want, int position) {
        TinRoofScore x = typed(text);
        TinRoofScore twin = typed("");
        Due.is("run " + text, Due.outcome(x::run), want);
        Due.is("position of " + text, x.errorPosition(), position);
        Due.is("input after " + text, x.account(10), 0);
        Due.is("line after " + text, Due.signs(x), Due.signs(twin));
        Due.is("state after " + text, Due.look(x), Due.look(twin));
        Due.is("undo after " + text, x.undo(), twin.undo());
        Due.is("undone after " + text, Due.look(x), Due.look(twin));
        Due.is("restore after " + text, x.restore(), twin.restore());
        Due.is("restored after " + text, Due.look(x), Due.look(twin));
        if (!want.equals("throws.UnsupportedOperationException")) {
            Due.is("reason after " + text, x.refusal(false) * 100 + x.refusal(true), 602);
        }
    }

    private static void runOfWrongTexts() {
        String bad = "throws.IllegalArgumentException";
        afterRun("", bad, 0);
        afterRun("lift;", bad, 5);
        afterRun("lift;lift;lixt", bad, 12);
        String[] outside = {"bar 0", "bar 1", "bar 9", "key 4 1", "key 0 12", "key 0 99", "leak 4 1", "leak 0 4", "leak 0 9", "drop 4 0 1",
            "drop 0 0 0", "drop 0 0 9", "rest 4", "rest 9", "limit 0", "limit 00", "limit 12", "tune 4 0", "tune 16 0", "tune 99 0"};
        for (String order : outside) {
            afterRun(order, bad, -1);
            afterRun("bar 2;key 3 3;" + order + ";lift", bad, -1);
        }
    }

    private static void runOfRefusedTexts() {
        String refused = "throws.UnsupportedOperationException";
        afterRun("bar 2;bar 2;bar 2;bar 2", refused, -1);
        afterRun("key 3 3;key 3 3", refused, -1);
        afterRun("lift;leak 3 3;leak 3 3", refused, -1);
        afterRun("lift;drop 0 1 5", refused, -1);
        afterRun("bar 2;lift;rest 3", refused, -1);
        afterRun("lift;lift;lift;lift;lift", refused, -1);
        afterRun("limit 4", refused, -1);
        afterRun("key 3 3;limit 5;limit 5", refused, -1);
        afterRun("lift;tune 1 0", refused, -1);
        afterRun("tune 0 5;tune 0 5", refused, -1);
        TinRoofScore x = typed("tune 0 5;tune 0 5");
        Due.outcome(x::run);
        Due.is("reason", x.refusal(false), 2);
        Due.is("detail", x.refusal(true), 5);
    }

    private static void refusal() {
        Due.keeps("refusal", ELEMENT, NEW, x -> x.refusal(false));
        Due.keeps("refusal detail", ELEMENT, NEW, x -> x.refusal(true));
        TinRoofScore x = new TinRoofScore();
        Due.outcome(() -> x.limit(4));
        Due.is("reason of the first refusal", x.refusal(false), 2);
        Due.is("detail of the first refusal", x.refusal(true), 4);
        Due.outcome(x::lift);
        Due.is("a detail of 0 is one too", x.refusal(true), 0);
        x.limit(5);
        Due.is("what is not refused leaves the reason", x.refusal(false), 5);
        Due.outcome(() -> x.limit(12));
        Due.is("what is out of range leaves the reason", x.refusal(false), 5);
    }

    private static void account() {
        for (int what : new int[] {LEAST, -1, 12, MOST}) {
            Due.keeps("account " + what, ARGUMENT, SONG, x -> x.account(what));
        }
    }

    private static void means() {
        Due.keeps("meanPitch of nothing", ARITHMETIC, NEW, TinRoofScore::meanPitch);
        Due.keeps("meanPitch of rests", ARITHMETIC, ThrowsTest::restsAlone, TinRoofScore::meanPitch);
        Due.keeps("filledShare of no bars", ARITHMETIC, NEW, TinRoofScore::filledShare);
        Due.is("filledShare of rests", restsAlone().filledShare(), 1.0f);
        Due.is("filledShare of bars alone", twoBars().filledShare(), 0.0f);
    }

    private static TinRoofScore restsAlone() {
        TinRoofScore x = new TinRoofScore();
        x.bar(2);
        x.leak(3, 1);
        x.rest(3);
        x.rest(3);
        return x;
    }

    private static void undo() {
        Due.keeps("undo of nothing", STATE, NEW, TinRoofScore::undo);
        Due.keeps("undo of no more", STATE, ThrowsTest::undone, TinRoofScore::undo);
    }

    private static TinRoofScore undone() {
        TinRoofScore x = restsAlone();
        x.save();
        x.restore();
        return x;
    }

    private static void restore() {
        Due.keeps("restore of nothing", STATE, NEW, TinRoofScore::restore);
        Due.keeps("restore without a snapshot", STATE, ThrowsTest::restsAlone, TinRoofScore::restore);
    }
}
