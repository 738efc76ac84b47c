import java.util.List;
import java.util.NoSuchElementException;

/** Promises 1 to 14: bars, tins and sounds. */
public final class BarsAndSoundsTest {
    private static final Class<IndexOutOfBoundsException> INDEX = IndexOutOfBoundsException.class;
    private static final Class<IllegalArgumentException> ARGUMENT = IllegalArgumentException.class;
    private static final Class<UnsupportedOperationException> REFUSED = UnsupportedOperationException.class;
    private static final Class<NoSuchElementException> ELEMENT = NoSuchElementException.class;
    private static final int LEAST = Integer.MIN_VALUE;
    private static final int MOST = Integer.MAX_VALUE;

    private BarsAndSoundsTest() {
    }

    public static void main(String[] args) {
        newObject();
        bar();
        key();
        leak();
        drop();
        rest();
        lift();
        limit();
        tune();
        tinOf();
        soundOf();
        barOf();
        partOf();
        at();
        Due.end();
    }

    /** Bars of 4, 4, 3: c2 .2 | b3 j1 | ~j1, with two beats free. */
    private static TinRoofScore song() {
        TinRoofScore x = new TinRoofScore();
        x.bar(4);
        x.bar(4);
        x.bar(3);
        x.key(1, 10);
        x.leak(1, 2);
        x.drop(0, 2, 2);
        x.rest(1);
        x.drop(1, 3, 3);
        x.drop(0, 9, 2);
        return x;
    }

    private static void refused(TinRoofScore x, String what, int reason, int detail, Due.Call call) {
        List<Object> before = Due.look(x);
        Due.fails(what, REFUSED, call);
        Due.is(what + " reason", x.refusal(false), reason);
        Due.is(what + " detail", x.refusal(true), detail);
        Due.is(what + " state", Due.look(x), before);
    }

    private static void newObject() {
        TinRoofScore x = new TinRoofScore();
        for (int what = 0; what < 12; what++) {
            Due.is("new account " + what, x.account(what), what == 7 ? 4 : 0);
        }
        for (int tin = 0; tin < 4; tin++) {
            for (int what = 0; what < 5; what++) {
                Due.is("new tinOf", x.tinOf(tin, what), 0);
            }
        }
        Due.is("new errorPosition", x.errorPosition(), -1);
        Due.fails("new refusal", ELEMENT, () -> x.refusal(false));
        Due.fails("new character", INDEX, () -> x.character(0));
        Due.fails("new undo", IllegalStateException.class, x::undo);
        Due.fails("new restore", IllegalStateException.class, x::restore);
        TinRoofScore other = new TinRoofScore();
        other.bar(4);
        Due.is("objects apart", x.account(0), 0);
    }

    private static void bar() {
        TinRoofScore x = new TinRoofScore();
        for (int size : new int[] {LEAST, -1, 0, 1, 9, MOST}) {
            Due.fails("bar " + size, ARGUMENT, () -> x.bar(size));
        }
        Due.is("no bar yet", x.account(0), 0);
        for (int i = 0; i < 6; i++) {
            Due.is("bar", x.bar(2 + i), i);
            Due.is("size", x.barOf(i, 0), 2 + i);
        }
        refused(x, "bar 7th", 1, 6, () -> x.bar(8));
        Due.fails("bar full and wrong", ARGUMENT, () -> x.bar(9));
        Due.is("greatest size", new TinRoofScore().bar(8), 0);
    }

    private static void key() {
        TinRoofScore x = new TinRoofScore();
        for (int tin : new int[] {LEAST, -1, 4, MOST}) {
            Due.fails("key tin " + tin, INDEX, () -> x.key(tin, 12));
        }
        for (int key : new int[] {LEAST, -1, 12, MOST}) {
            Due.fails("key " + key, ARGUMENT, () -> x.key(3, key));
        }
        Due.is("key", x.key(3, 11), 0);
        Due.is("key again", x.key(3, 5), 11);
        Due.is("key back to 0", x.key(3, 0), 5);
        Due.is("key kept", x.tinOf(3, 0), 0);
        Due.is("key of tin 0", x.key(0, 7), 0);
        refused(x, "key so already", 2, 7, () -> x.key(0, 7));
        Due.is("other tin", x.tinOf(1, 0), 0);
    }

    private static void leak() {
        TinRoofScore x = new TinRoofScore();
        for (int tin : new int[] {LEAST, -1, 4, MOST}) {
            Due.fails("leak tin " + tin, INDEX, () -> x.leak(tin, 4));
        }
        for (int beats : new int[] {LEAST, -1, 4, MOST}) {
            Due.fails("leak " + beats, ARGUMENT, () -> x.leak(0, beats));
        }
        Due.is("leak", x.leak(0, 3), 0);
        Due.is("leak again", x.leak(0, 1), 3);
        Due.is("leak to 0", x.leak(0, 0), 1);
        Due.is("leak of tin 3", x.leak(3, 2), 0);
        refused(x, "leak so already", 2, 2, () -> x.leak(3, 2));
        Due.is("leak kept", x.tinOf(3, 1), 2);
    }

    private static void drop() {
        TinRoofScore x = new TinRoofScore();
        refused(x, "drop without bars", 3, 0, () -> x.drop(0, 0, 1));
        x.bar(8);
        for (int tin : new int[] {LEAST, -1, 4, MOST}) {
            Due.fails("drop tin " + tin, INDEX, () -> x.drop(tin, 10, 0));
        }
        for (int number : new int[] {LEAST, -1, 10, MOST}) {
            Due.fails("drop height " + number, ARGUMENT, () -> x.drop(0, number, 1));
        }
        for (int number : new int[] {LEAST, -1, 0, 9, MOST}) {
            Due.fails("drop beats " + number, ARGUMENT, () -> x.drop(0, 0, number));
        }
        Due.is("drop whole bar", x.drop(3, 9, 8), 0);
        refused(x, "drop in full bar", 3, 0, () -> x.drop(0, 0, 1));
        x.bar(8);
        Due.is("drop one less", x.drop(0, 0, 7), 1);
        refused(x, "drop with one beat free", 3, 1, () -> x.drop(0, 0, 2));
        Due.is("drop that fits", x.drop(0, 0, 1), 2);
        TinRoofScore y = new TinRoofScore();
        y.bar(8);
        y.bar(8);
        for (int i = 0; i < 16; i++) {
            Due.is("drop", y.drop(0, 0, 1), i);
        }
        refused(y, "17th drop, without room too", 1, 16, () -> y.drop(0, 0, 1));
        y.bar(8);
        refused(y, "17th drop", 1, 16, () -> y.drop(0, 0, 1));
        Due.fails("17th drop, wrong too", ARGUMENT, () -> y.drop(0, 0, 9));
    }

    private static void rest() {
        TinRoofScore x = new TinRoofScore();
        for (int tin : new int[] {LEAST, -1, 4, MOST}) {
            Due.fails("rest tin " + tin, INDEX, () -> x.rest(tin));
        }
        x.key(2, 9);
        refused(x, "rest of a dry tin", 4, 9, () -> x.rest(2));
        x.leak(2, 3);
        refused(x, "rest without bars", 3, 0, () -> x.rest(2));
        x.bar(5);
        Due.is("rest", x.rest(2), 0);
        refused(x, "rest with two beats free", 3, 2, () -> x.rest(2));
        x.leak(2, 2);
        Due.is("rest that fits", x.rest(2), 1);
        Due.is("rest keeps its beats", x.soundOf(0, 2), 3);
        Due.is("rest has the leak of then", x.soundOf(1, 2), 2);
        TinRoofScore y = new TinRoofScore();
        y.bar(8);
        y.bar(8);
        y.leak(1, 1);
        for (int i = 0; i < 16; i++) {
            Due.is("rest", y.rest(1), i);
        }
        refused(y, "17th rest", 1, 16, () -> y.rest(1));
        refused(y, "17th rest of a dry tin", 4, 0, () -> y.rest(0));
    }

    private static void lift() {
        TinRoofScore x = new TinRoofScore();
        refused(x, "lift without anything", 5, 0, x::lift);
        x.bar(4);
        x.bar(4);
        refused(x, "lift without sounds", 5, 2, x::lift);
        TinRoofScore y = song();
        Due.is("lift drop", y.lift(), 2);
        Due.is("lift drop", y.lift(), 3);
        Due.is("lift rest", y.lift(), 2);
        Due.is("sounds", y.account(3), 1);
        Due.is("drop again", y.drop(3, 1, 1), 1);
        Due.is("drop again tin", y.soundOf(1, 0), 3);
    }

    private static void limit() {
        TinRoofScore x = new TinRoofScore();
        for (int limit : new int[] {LEAST, -1, 0, 12, MOST}) {
            Due.fails("limit " + limit, ARGUMENT, () -> x.limit(limit));
        }
        refused(x, "limit so already", 2, 4, () -> x.limit(4));
        Due.is("limit", x.limit(11), 4);
        Due.is("limit again", x.limit(1), 11);
        Due.is("limit kept", x.account(7), 1);
    }

    private static void tune() {
        TinRoofScore x = song();
        for (int sound : new int[] {LEAST, -1, 4, MOST}) {
            Due.fails("tune sound " + sound, INDEX, () -> x.tune(sound, 10));
        }
        for (int height : new int[] {LEAST, -1, 10, MOST}) {
            Due.fails("tune height " + height, ARGUMENT, () -> x.tune(0, height));
            Due.fails("tune rest height " + height, ARGUMENT, () -> x.tune(1, height));
        }
        refused(x, "tune a rest", 6, 2, () -> x.tune(1, 0));
        refused(x, "tune so already", 2, 9, () -> x.tune(3, 9));
        Due.is("tune", x.tune(3, 0), 9);
        Due.is("tune again", x.tune(3, 8), 0);
        Due.is("tuned", x.soundOf(3, 1), 8);
        Due.is("tuned pitch", x.soundOf(3, 3), 8);
    }

    private static void tinOf() {
        TinRoofScore x = song();
        int[][] want = {{0, 0, 2, 0, 4}, {10, 2, 1, 1, 5}, {0, 0, 0, 0, 0}, {0, 0, 0, 0, 0}};
        for (int tin = 0; tin < 4; tin++) {
            for (int what = 0; what < 5; what++) {
                Due.is("tinOf " + tin + " " + what, x.tinOf(tin, what), want[tin][what]);
            }
        }
        for (int tin : new int[] {LEAST, -1, 4, MOST}) {
            Due.fails("tinOf " + tin, INDEX, () -> x.tinOf(tin, 5));
        }
        for (int what : new int[] {LEAST, -1, 5, MOST}) {
            Due.fails("tinOf what " + what, ARGUMENT, () -> x.tinOf(0, what));
        }
    }

    private static void soundOf() {
        TinRoofScore x = song();
        int[][] want = {{0, 2, 2, 2, 1, 0, 0}, {1, -1, 2, -1, 1, 2, 0}, {1, 3, 3, 1, 1, 4, 1}, {0, 9, 2, 9, 2, 7, 1}};
        for (int sound = 0; sound < 4; sound++) {
            for (int what = 0; what < 7; what++) {
                Due.is("soundOf " + sound + " " + what, x.soundOf(sound, what), want[sound][what]);
            }
        }
        for (int sound : new int[] {LEAST, -1, 4, MOST}) {
            Due.fails("soundOf " + sound, INDEX, () -> x.soundOf(sound, 7));
        }
        for (int what : new int[] {LEAST, -1, 7, MOST}) {
            Due.fails("soundOf what " + what, ARGUMENT, () -> x.soundOf(0, what));
        }
        x.key(1, 8);
        Due.is("pitch 11", x.soundOf(2, 3), 11);
        x.key(1, 9);
        Due.is("pitch 12 is 0", x.soundOf(2, 3), 0);
        Due.is("the pitch of a rest stays", x.soundOf(1, 3), -1);
        x.key(1, 11);
        x.tune(2, 9);
        Due.is("greatest pitch and key", x.soundOf(2, 3), 8);
        TinRoofScore y = new TinRoofScore();
        for (int i = 0; i < 6; i++) {
            y.bar(2);
        }
        y.drop(0, 0, 1);
        y.drop(0, 0, 8);
        Due.is("five parts", y.soundOf(1, 4), 5);
    }

    private static void barOf() {
        TinRoofScore x = song();
        x.bar(2);
        int[][] want = {{4, 4, 2, 2, 0}, {4, 4, 2, 2, 4}, {3, 1, 1, 0, 8}, {2, 0, 0, 0, 11}};
        for (int bar = 0; bar < 4; bar++) {
            for (int what = 0; what < 5; what++) {
                Due.is("barOf " + bar + " " + what, x.barOf(bar, what), want[bar][what]);
            }
        }
        for (int bar : new int[] {LEAST, -1, 4, MOST}) {
            Due.fails("barOf " + bar, INDEX, () -> x.barOf(bar, 5));
        }
        for (int what : new int[] {LEAST, -1, 5, MOST}) {
            Due.fails("barOf what " + what, ARGUMENT, () -> x.barOf(0, what));
        }
    }

    private static void partOf() {
        TinRoofScore x = song();
        int[][] want = {{0, 0, 0, 2, 0}, {0, 1, 1, 2, 0}, {1, 0, 2, 3, 0}, {1, 1, 3, 1, 0}, {2, 0, 3, 1, 1}};
        for (int[] row : want) {
            for (int what = 0; what < 3; what++) {
                Due.is("partOf " + row[0] + " " + row[1] + " " + what, x.partOf(row[0], row[1], what), row[2 + what]);
            }
        }
        for (int bar : new int[] {LEAST, -1, 3, MOST}) {
            Due.fails("partOf bar " + bar, INDEX, () -> x.partOf(bar, 0, 3));
        }
        for (int place : new int[] {LEAST, -1, 2, MOST}) {
            Due.fails("partOf place " + place, INDEX, () -> x.partOf(0, place, 3));
        }
        Due.fails("partOf behind the last part", INDEX, () -> x.partOf(2, 1, 0));
        for (int what : new int[] {LEAST, -1, 3, MOST}) {
            Due.fails("partOf what " + what, ARGUMENT, () -> x.partOf(0, 0, what));
        }
        TinRoofScore y = new TinRoofScore();
        y.bar(2);
        y.bar(2);
        y.bar(2);
        y.drop(0, 0, 6);
        Due.is("middle part is tied", y.partOf(1, 0, 2), 1);
        Due.is("middle part beats", y.partOf(1, 0, 1), 2);
    }

    private static void at() {
        TinRoofScore x = song();
        int[] want = {0, 0, 1, 1, 2, 2, 2, 3, 3};
        for (int beat = 0; beat < want.length; beat++) {
            Due.is("at " + beat, x.at(beat), want[beat]);
        }
        for (int beat : new int[] {LEAST, -1, 9, 10, 11, MOST}) {
            Due.fails("at " + beat, ELEMENT, () -> x.at(beat));
        }
    }
}
