import java.util.List;
import java.util.NoSuchElementException;

/** Promises 1 to 14: bars, tins and sounds. */
public final class BarsAndSoundsTest {
    private static final Class<IndexOutOfBoundsException> INDEX = IndexOutOfBoundsException.class;
    private static final Class<IllegalArgumentException> ARGUMENT = IllegalArgumentException.class;
    private static final Class<UnsupportedOperationException> REFUSED = UnsupportedOperationException.class;
    private static final Class<NoSuchElementException> ELEMENT = NoSuchElementException.class;
    private static final int LEAST = Integer.MIN_VALUE;
    private static final int MOST = Integer.MAX_VALUE;

    private BarsAndSoundsTest() {
    }

    public static void main(String[] args) {
        newObject();
        bar();
        key();
        leak();
        drop();
        rest();
        lift();
        afterLifts();
        afterLiftOfARest();
        limit();
        tune();
        fewSoundsOfManyParts();
        manySoundsInOneBar();
        sixBars();
        tinOf();
        soundOf();
        barOf();
        partOf();
        at();
        Due.end();
    }

    /** Bars of 4, 4, 3: c2 .2 | b3 j1 | ~j1, with two beats free. */
    private static TinRoofScore song() {
        TinRoofScore x = new TinRoofScore();
        x.bar(4);
        x.bar(4);
        x.bar(3);
        x.key(1, 10);
        x.leak(1, 2);
        x.drop(0, 2, 2);
        x.rest(1);
        x.drop(1, 3, 3);
        x.drop(0, 9, 2);
        return x;
    }

    private static TinRoofScore barsOf(int... sizes) {
        TinRoofScore x = new TinRoofScore();
        for (int size : sizes) {
            x.bar(size);
        }
        return x;
    }

    private static void refused(TinRoofScore x, String what, int reason, int detail, Due.Call call) {
        List<Object> before = Due.look(x);
        Due.fails(what, REFUSED, call);
        Due.is(what + " reason", x.refusal(false), reason);
        Due.is(what + " detail", x.refusal(true), detail);
        Due.is(what + " state", Due.look(x), before);
    }

    private static void newObject() {
        TinRoofScore x = new TinRoofScore();
        for (int what = 0; what < 12; what++) {
            Due.is("new account " + what, x.account(what), what == 7 ? 4 : 0);
        }
        for (int tin = 0; tin < 4; tin++) {
            for (int what = 0; what < 5; what++) {
                Due.is("new tinOf", x.tinOf(tin, what), 0);
            }
        }
        Due.is("new errorPosition", x.errorPosition(), -1);
        Due.fails("new refusal", ELEMENT, () -> x.refusal(false));
        Due.fails("new character", INDEX, () -> x.character(0));
        Due.fails("new undo", IllegalStateException.class, x::undo);
        Due.fails("new restore", IllegalStateException.class, x::restore);
        TinRoofScore other = new TinRoofScore();
        other.bar(4);
        Due.is("objects apart", x.account(0), 0);
    }

    private static void bar() {
        TinRoofScore x = new TinRoofScore();
        for (int size : new int[] {LEAST, -1, 0, 1, 9, MOST}) {
            Due.fails("bar " + size, ARGUMENT, () -> x.bar(size));
        }
        Due.is("no bar yet", x.account(0), 0);
        for (int i = 0; i < 6; i++) {
            Due.is("bar", x.bar(2 + i), i);
            Due.is("size", x.barOf(i, 0), 2 + i);
        }
        refused(x, "bar 7th", 1, 6, () -> x.bar(8));
        Due.fails("bar full and wrong", ARGUMENT, () -> x.bar(9));
        Due.is("greatest size", new TinRoofScore().bar(8), 0);
    }

    private static void key() {
        TinRoofScore x = new TinRoofScore();
        for (int tin : new int[] {LEAST, -1, 4, MOST}) {
            Due.fails("key tin " + tin, INDEX, () -> x.key(tin, 12));
        }
        for (int key : new int[] {LEAST, -1, 12, MOST}) {
            Due.fails("key " + key, ARGUMENT, () -> x.key(3, key));
        }
        Due.is("key", x.key(3, 11), 0);
        Due.is("key again", x.key(3, 5), 11);
        Due.is("key back to 0", x.key(3, 0), 5);
        Due.is("key kept", x.tinOf(3, 0), 0);
        Due.is("key of tin 0", x.key(0, 7), 0);
        refused(x, "key so already", 2, 7, () -> x.key(0, 7));
        Due.is("other tin", x.tinOf(1, 0), 0);
    }

    private static void leak() {
        TinRoofScore x = new TinRoofScore();
        for (int tin : new int[] {LEAST, -1, 4, MOST}) {
            Due.fails("leak tin " + tin, INDEX, () -> x.leak(tin, 4));
        }
        for (int beats : new int[] {LEAST, -1, 4, MOST}) {
            Due.fails("leak " + beats, ARGUMENT, () -> x.leak(0, beats));
        }
        Due.is("leak", x.leak(0, 3), 0);
        Due.is("leak again", x.leak(0, 1), 3);
        Due.is("leak to 0", x.leak(0, 0), 1);
        Due.is("leak of tin 3", x.leak(3, 2), 0);
        refused(x, "leak so already", 2, 2, () -> x.leak(3, 2));
        Due.is("leak kept", x.tinOf(3, 1), 2);
    }

    private static void drop() {
        TinRoofScore x = new TinRoofScore();
        refused(x, "drop without bars", 3, 0, () -> x.drop(0, 0, 1));
        x.bar(8);
        for (int tin : new int[] {LEAST, -1, 4, MOST}) {
            Due.fails("drop tin " + tin, INDEX, () -> x.drop(tin, 10, 0));
        }
        for (int number : new int[] {LEAST, -1, 10, MOST}) {
            Due.fails("drop height " + number, ARGUMENT, () -> x.drop(0, number, 1));
        }
        for (int number : new int[] {LEAST, -1, 0, 9, MOST}) {
            Due.fails("drop beats " + number, ARGUMENT, () -> x.drop(0, 0, number));
        }
        Due.is("drop whole bar", x.drop(3, 9, 8), 0);
        refused(x, "drop in full bar", 3, 0, () -> x.drop(0, 0, 1));
        x.bar(8);
        Due.is("drop one less", x.drop(0, 0, 7), 1);
        refused(x, "drop with one beat free", 3, 1, () -> x.drop(0, 0, 2));
        Due.is("drop that fits", x.drop(0, 0, 1), 2);
        TinRoofScore y = new TinRoofScore();
        y.bar(8);
        y.bar(8);
        for (int i = 0; i < 16; i++) {
            Due.is("drop", y.drop(0, 0, 1), i);
        }
        refused(y, "17th drop, without room too", 1, 16, () -> y.drop(0, 0, 1));
        y.bar(8);
        refused(y, "17th drop", 1, 16, () -> y.drop(0, 0, 1));
        Due.fails("17th drop, wrong too", ARGUMENT, () -> y.drop(0, 0, 9));
    }

    private static void rest() {
        TinRoofScore x = new TinRoofScore();
        for (int tin : new int[] {LEAST, -1, 4, MOST}) {
            Due.fails("rest tin " + tin, INDEX, () -> x.rest(tin));
        }
        x.key(2, 9);
        refused(x, "rest of a dry tin", 4, 9, () -> x.rest(2));
        x.leak(2, 3);
        refused(x, "rest without bars", 3, 0, () -> x.rest(2));
        x.bar(5);
        Due.is("rest", x.rest(2), 0);
        refused(x, "rest with two beats free", 3, 2, () -> x.rest(2));
        x.leak(2, 2);
        Due.is("rest that fits", x.rest(2), 1);
        Due.is("rest keeps its beats", x.soundOf(0, 2), 3);
        Due.is("rest has the leak of then", x.soundOf(1, 2), 2);
        TinRoofScore y = new TinRoofScore();
        y.bar(8);
        y.bar(8);
        y.leak(1, 1);
        for (int i = 0; i < 16; i++) {
            Due.is("rest", y.rest(1), i);
        }
        refused(y, "17th rest", 1, 16, () -> y.rest(1));
        refused(y, "17th rest of a dry tin", 4, 0, () -> y.rest(0));
    }

    private static void lift() {
        TinRoofScore x = new TinRoofScore();
        refused(x, "lift without anything", 5, 0, x::lift);
        x.bar(4);
        x.bar(4);
        refused(x, "lift without sounds", 5, 2, x::lift);
        TinRoofScore y = song();
        Due.is("lift drop", y.lift(), 2);
        Due.is("lift drop", y.lift(), 3);
        Due.is("lift rest", y.lift(), 2);
        Due.is("sounds", y.account(3), 1);
        Due.is("drop again", y.drop(3, 1, 1), 1);
        Due.is("drop again tin", y.soundOf(1, 0), 3);
    }

    private static void answers(String what, TinRoofScore x, int... accounts) {
        for (int i = 0; i < accounts.length; i++) {
            Due.is(what + " account " + i, x.account(i), accounts[i]);
        }
    }

    private static void afterLifts() {
        TinRoofScore x = barsOf(8, 8, 8);
        x.key(2, 5);
        x.leak(1, 3);
        x.drop(0, 4, 3);
        x.drop(2, 9, 8);
        x.rest(1);
        x.drop(2, 6, 2);
        x.rest(1);
        x.drop(3, 9, 1);
        Due.is("lift the drop 5", x.lift(), 1);
        Due.is("lift the rest 4", x.lift(), 3);
        Due.is("lift the drop 3", x.lift(), 2);
        answers("after lifts", x, 3, 24, 14, 3, 2, 1, 4, 4, 6, 3, 0, 8);
        int[][] tins = {{0, 0, 1, 0, 3}, {0, 3, 0, 1, 3}, {5, 0, 1, 0, 8}, {0, 0, 0, 0, 0}};
        for (int tin = 0; tin < 4; tin++) {
            for (int what = 0; what < 5; what++) {
                Due.is("tin " + tin + " after lifts " + what, x.tinOf(tin, what), tins[tin][what]);
            }
        }
        int[][] bars = {{8, 8, 2, 2, 0}, {8, 6, 2, 1, 8}, {8, 0, 0, 0, 16}};
        for (int bar = 0; bar < 3; bar++) {
            for (int what = 0; what < 5; what++) {
                Due.is("bar " + bar + " after lifts " + what, x.barOf(bar, what), bars[bar][what]);
            }
        }
        Due.is("last beat after lifts", x.at(13), 2);
        Due.fails("a lifted beat", ELEMENT, () -> x.at(14));
        Due.fails("a lifted sound", INDEX, () -> x.soundOf(3, 0));
        Due.fails("tune a lifted sound", INDEX, () -> x.tune(3, 0));
        Due.fails("wouldFault of a lifted sound", INDEX, () -> x.wouldFault(3, 0));
        Due.fails("bestHeight of a lifted sound", INDEX, () -> x.bestHeight(3));
        Due.fails("a lifted part", INDEX, () -> x.partOf(1, 2, 0));
        Due.fails("a lifted part of a bar now empty", INDEX, () -> x.partOf(2, 0, 0));
        afterLiftsAgain(x);
    }

    private static void afterLiftOfARest() {
        TinRoofScore x = barsOf(8);
        x.leak(0, 2);
        x.drop(0, 0, 1);
        x.rest(0);
        x.rest(0);
        Due.is("lift a rest", x.lift(), 2);
        answers("after lift of a rest", x, 1, 8, 3, 2, 1, 1, 2, 4, 3, 1, 0, 6);
        Due.is("rests of the tin", x.tinOf(0, 3), 1);
        Due.is("lift the other rest", x.lift(), 2);
        answers("after lift of both", x, 1, 8, 1, 1, 1, 0, 1, 4, 3, 2, 0, 7);
        Due.is("no rests of the tin", x.tinOf(0, 3), 0);
    }

    private static void afterLiftsAgain(TinRoofScore x) {
        for (int rule = 1; rule <= 4; rule++) {
            Due.is("faults after lifts of " + rule, x.faults(rule, false), 0);
            Due.is("faults after lifts again of " + rule, x.faults(rule, true), 0);
        }
        Due.is("clean after lifts", x.isClean(), true);
        Due.is("well after lifts", x.isWell(), true);
        Due.is("walk after lifts", x.walk(false), 2);
        Due.is("walk after lifts again", x.walk(true), 2);
        Due.is("ups after lifts", x.goes(true), 0);
        Due.is("downs after lifts", x.goes(false), 1);
        Due.is("span after lifts", x.span(), 2);
        for (int pitch = 0; pitch < 12; pitch++) {
            Due.is("drops of " + pitch + " after lifts", x.withPitch(pitch), pitch == 2 || pitch == 4 ? 1 : 0);
        }
        int[] loudest = {2, 0, 1, 3};
        for (int place = 0; place < 4; place++) {
            Due.is("loudest after lifts " + place, x.loudest(place), loudest[place]);
        }
        Due.is("highest after lifts", x.highest(0), 0);
        Due.is("second highest after lifts", x.highest(1), 1);
        Due.fails("no third one", ELEMENT, () -> x.highest(2));
        Due.is("line of the bar 1 after lifts", Due.barLine(x, 1), "~c3 .3 _2");
        Due.is("line of the bar 2 after lifts", Due.barLine(x, 2), "_8");
        Due.is("mean after lifts", x.meanPitch(), 3.0);
        Due.is("share after lifts", x.filledShare(), 14.0f / 24.0f);
    }

    private static void fewSoundsOfManyParts() {
        TinRoofScore x = barsOf(2, 2, 2, 2, 2, 2);
        x.key(0, 11);
        x.drop(1, 2, 8);
        x.drop(1, 3, 3);
        answers("two sounds", x, 6, 12, 11, 2, 2, 0, 6, 4, 2, 0, 0, 8);
        Due.is("drops of the tin", x.tinOf(1, 2), 2);
        Due.is("of the other tin", x.tinOf(0, 2) + x.tinOf(0, 4), 0);
        Due.is("span of two", x.span(), 1);
        Due.is("walk of two", x.walk(false), 1);
        Due.is("ups of two", x.goes(true), 1);
        Due.is("downs of two", x.goes(false), 0);
        Due.is("mean of two", x.meanPitch(), 2.5);
        Due.is("drops of 11", x.withPitch(11), 0);
        Due.is("highest of two", x.highest(0), 1);
        Due.is("lowest of two", x.highest(1), 0);
        Due.is("loudest", x.loudest(0), 1);
        Due.is("loudest of those without beats", x.loudest(1), 0);
        TinRoofScore y = barsOf(2, 2);
        y.leak(2, 3);
        y.rest(2);
        Due.is("one rest at the first beats of two bars", y.faults(3, false), 2);
        Due.is("again", y.faults(3, true), 2);
        Due.is("the first of them", y.firstFault(3), 0);
    }

    private static void manySoundsInOneBar() {
        TinRoofScore x = barsOf(8);
        x.leak(3, 1);
        x.drop(2, 0, 1);
        for (int i = 1; i < 8; i++) {
            x.rest(3);
        }
        answers("eight sounds", x, 1, 8, 8, 8, 1, 7, 8, 4, 8, 0, 0, 8);
        Due.is("parts", x.barOf(0, 2), 8);
        Due.is("begin in it", x.barOf(0, 3), 8);
        Due.is("rests", x.tinOf(3, 3), 7);
        Due.is("drops", x.tinOf(3, 2), 0);
        Due.is("beats", x.tinOf(3, 4), 7);
        Due.is("the eighth part", x.partOf(0, 7, 0), 7);
    }

    private static void sixBars() {
        TinRoofScore x = barsOf(2, 3, 4, 5, 6, 8);
        x.limit(1);
        Due.is("beats of six bars", x.account(1), 28);
        Due.is("share of six bars", x.filledShare(), 0.0f);
        for (int i = 0; i < 3; i++) {
            x.drop(0, 0, 8);
        }
        Due.fails("one beat too many", REFUSED, () -> x.drop(0, 0, 5));
        Due.is("the free beats", x.refusal(true), 4);
        x.drop(0, 0, 4);
        Due.is("all filled", x.filledShare(), 1.0f);
        Due.is("the last beat", x.at(27), 3);
        Due.is("begin of the last bar", x.barOf(5, 4), 20);
    }

    private static void limit() {
        TinRoofScore x = new TinRoofScore();
        for (int limit : new int[] {LEAST, -1, 0, 12, MOST}) {
            Due.fails("limit " + limit, ARGUMENT, () -> x.limit(limit));
        }
        refused(x, "limit so already", 2, 4, () -> x.limit(4));
        Due.is("limit", x.limit(11), 4);
        Due.is("limit again", x.limit(1), 11);
        Due.is("limit kept", x.account(7), 1);
    }

    private static void tune() {
        TinRoofScore x = song();
        for (int sound : new int[] {LEAST, -1, 4, MOST}) {
            Due.fails("tune sound " + sound, INDEX, () -> x.tune(sound, 10));
        }
        for (int height : new int[] {LEAST, -1, 10, MOST}) {
            Due.fails("tune height " + height, ARGUMENT, () -> x.tune(0, height));
            Due.fails("tune rest height " + height, ARGUMENT, () -> x.tune(1, height));
        }
        refused(x, "tune a rest", 6, 2, () -> x.tune(1, 0));
        refused(x, "tune so already", 2, 9, () -> x.tune(3, 9));
        Due.is("tune", x.tune(3, 0), 9);
        Due.is("tune again", x.tune(3, 8), 0);
        Due.is("tuned", x.soundOf(3, 1), 8);
        Due.is("tuned pitch", x.soundOf(3, 3), 8);
    }

    private static void tinOf() {
        TinRoofScore x = song();
        int[][] want = {{0, 0, 2, 0, 4}, {10, 2, 1, 1, 5}, {0, 0, 0, 0, 0}, {0, 0, 0, 0, 0}};
        for (int tin = 0; tin < 4; tin++) {
            for (int what = 0; what < 5; what++) {
                Due.is("tinOf " + tin + " " + what, x.tinOf(tin, what), want[tin][what]);
            }
        }
        for (int tin : new int[] {LEAST, -1, 4, MOST}) {
            Due.fails("tinOf " + tin, INDEX, () -> x.tinOf(tin, 5));
        }
        for (int what : new int[] {LEAST, -1, 5, MOST}) {
            Due.fails("tinOf what " + what, ARGUMENT, () -> x.tinOf(0, what));
        }
    }

    private static void soundOf() {
        TinRoofScore x = song();
        int[][] want = {{0, 2, 2, 2, 1, 0, 0}, {1, -1, 2, -1, 1, 2, 0}, {1, 3, 3, 1, 1, 4, 1}, {0, 9, 2, 9, 2, 7, 1}};
        for (int sound = 0; sound < 4; sound++) {
            for (int what = 0; what < 7; what++) {
                Due.is("soundOf " + sound + " " + what, x.soundOf(sound, what), want[sound][what]);
            }
        }
        for (int sound : new int[] {LEAST, -1, 4, MOST}) {
            Due.fails("soundOf " + sound, INDEX, () -> x.soundOf(sound, 7));
        }
        for (int what : new int[] {LEAST, -1, 7, MOST}) {
            Due.fails("soundOf what " + what, ARGUMENT, () -> x.soundOf(0, what));
        }
        x.key(1, 8);
        Due.is("pitch 11", x.soundOf(2, 3), 11);
        x.key(1, 9);
        Due.is("pitch 12 is 0", x.soundOf(2, 3), 0);
        Due.is("the pitch of a rest stays", x.soundOf(1, 3), -1);
        x.key(1, 11);
        x.tune(2, 9);
        Due.is("greatest pitch and key", x.soundOf(2, 3), 8);
        TinRoofScore y = new TinRoofScore();
        for (int i = 0; i < 6; i++) {
            y.bar(2);
        }
        y.drop(0, 0, 1);
        y.drop(0, 0, 8);
        Due.is("five parts", y.soundOf(1, 4), 5);
    }

    private static void barOf() {
        TinRoofScore x = song();
        x.bar(2);
        int[][] want = {{4, 4, 2, 2, 0}, {4, 4, 2, 2, 4}, {3, 1, 1, 0, 8}, {2, 0, 0, 0, 11}};
        for (int bar = 0; bar < 4; bar++) {
            for (int what = 0; what < 5; what++) {
                Due.is("barOf " + bar + " " + what, x.barOf(bar, what), want[bar][what]);
            }
        }
        for (int bar : new int[] {LEAST, -1, 4, MOST}) {
            Due.fails("barOf " + bar, INDEX, () -> x.barOf(bar, 5));
        }
        for (int what : new int[] {LEAST, -1, 5, MOST}) {
            Due.fails("barOf what " + what, ARGUMENT, () -> x.barOf(0, what));
        }
    }

    private static void partOf() {
        TinRoofScore x = song();
        int[][] want = {{0, 0, 0, 2, 0}, {0, 1, 1, 2, 0}, {1, 0, 2, 3, 0}, {1, 1, 3, 1, 0}, {2, 0, 3, 1, 1}};
        for (int[] row : want) {
            for (int what = 0; what < 3; what++) {
                Due.is("partOf " + row[0] + " " + row[1] + " " + what, x.partOf(row[0], row[1], what), row[2 + what]);
            }
        }
        for (int bar : new int[] {LEAST, -1, 3, MOST}) {
            Due.fails("partOf bar " + bar, INDEX, () -> x.partOf(bar, 0, 3));
        }
        for (int place : new int[] {LEAST, -1, 2, MOST}) {
            Due.fails("partOf place " + place, INDEX, () -> x.partOf(0, place, 3));
        }
        Due.fails("partOf behind the last part", INDEX, () -> x.partOf(2, 1, 0));
        for (int what : new int[] {LEAST, -1, 3, MOST}) {
            Due.fails("partOf what " + what, ARGUMENT, () -> x.partOf(0, 0, what));
        }
        TinRoofScore y = new TinRoofScore();
        y.bar(2);
        y.bar(2);
        y.bar(2);
        y.drop(0, 0, 6);
        Due.is("middle part is tied", y.partOf(1, 0, 2), 1);
        Due.is("middle part beats", y.partOf(1, 0, 1), 2);
    }

    private static void at() {
        TinRoofScore x = song();
        int[] want = {0, 0, 1, 1, 2, 2, 2, 3, 3};
        for (int beat = 0; beat < want.length; beat++) {
            Due.is("at " + beat, x.at(beat), want[beat]);
        }
        for (int beat : new int[] {LEAST, -1, 9, 10, 11, MOST}) {
            Due.fails("at " + beat, ELEMENT, () -> x.at(beat));
        }
    }
}
