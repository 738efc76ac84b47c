import java.util.List;
import java.util.NoSuchElementException;

/** Promises 15 to 25: faults, tunes, and tins and drops in order. */
public final class FaultsAndTunesTest {
    private static final Class<IndexOutOfBoundsException> INDEX = IndexOutOfBoundsException.class;
    private static final Class<IllegalArgumentException> ARGUMENT = IllegalArgumentException.class;
    private static final Class<NoSuchElementException> ELEMENT = NoSuchElementException.class;
    private static final int LEAST = Integer.MIN_VALUE;
    private static final int MOST = Integer.MAX_VALUE;

    private FaultsAndTunesTest() {
    }

    public static void main(String[] args) {
        wrongRules();
        farDrops();
        sameDrops();
        restsAtBars();
        ties();
        clean();
        wouldFault();
        bestHeight();
        walkAndGoes();
        spanAndPitches();
        loudest();
        highest();
        Due.end();
    }

    private static TinRoofScore barsOf(int... sizes) {
        TinRoofScore x = new TinRoofScore();
        for (int size : sizes) {
            x.bar(size);
        }
        return x;
    }

    private static void drops(TinRoofScore x, int... heights) {
        for (int height : heights) {
            x.drop(0, height, 1);
        }
    }

    private static void faults(TinRoofScore x, int rule, int count, int first) {
        Due.is("faults of " + rule, x.faults(rule, false), count);
        Due.is("faults of " + rule + " again", x.faults(rule, true), count);
        if (count == 0) {
            Due.fails("firstFault of " + rule, ELEMENT, () -> x.firstFault(rule));
        } else {
            Due.is("firstFault of " + rule, x.firstFault(rule), first);
        }
    }

    private static void wrongRules() {
        TinRoofScore x = barsOf(8);
        for (int rule : new int[] {LEAST, -1, 0, 5, MOST}) {
            Due.fails("faults", ARGUMENT, () -> x.faults(rule, false));
            Due.fails("faults again", ARGUMENT, () -> x.faults(rule, true));
            Due.fails("firstFault", ARGUMENT, () -> x.firstFault(rule));
        }
        for (int rule = 1; rule <= 4; rule++) {
            faults(x, rule, 0, 0);
        }
    }

    private static void farDrops() {
        TinRoofScore x = barsOf(8);
        drops(x, 9, 5, 0, 4, 9);
        faults(x, 1, 2, 2);
        x.limit(5);
        faults(x, 1, 0, 0);
        x.limit(3);
        faults(x, 1, 4, 1);
        TinRoofScore y = barsOf(8);
        y.leak(1, 1);
        drops(y, 0);
        y.rest(1);
        y.rest(1);
        drops(y, 5);
        faults(y, 1, 1, 3);
        y.key(0, 7);
        faults(y, 1, 1, 3);
        y.tune(0, 4);
        faults(y, 1, 1, 3);
        Due.is("12 is 0, so it is far", y.soundOf(3, 3), 0);
        y.key(0, 8);
        Due.is("12 is 0", y.soundOf(0, 3), 0);
        faults(y, 1, 0, 0);
    }

    private static void sameDrops() {
        TinRoofScore x = barsOf(8, 8);
        x.leak(3, 1);
        drops(x, 3, 3);
        faults(x, 2, 0, 0);
        x.rest(3);
        drops(x, 3);
        faults(x, 2, 1, 3);
        drops(x, 3, 4, 3, 3, 4, 4, 4);
        faults(x, 2, 3, 3);
        TinRoofScore y = barsOf(8);
        y.key(1, 2);
        y.key(2, 11);
        y.drop(0, 4, 1);
        y.drop(1, 2, 1);
        y.drop(2, 5, 1);
        faults(y, 2, 1, 2);
        y.key(1, 1);
        faults(y, 2, 0, 0);
        TinRoofScore w = barsOf(8, 8);
        w.drop(0, 6, 2);
        faults(w, 2, 0, 0);
        w.drop(0, 6, 3);
        faults(w, 2, 0, 0);
        w.drop(0, 6, 4);
        faults(w, 2, 1, 2);
        w.drop(0, 6, 3);
        faults(w, 2, 2, 2);
        TinRoofScore z = barsOf(8);
        drops(z, 0, 0);
        faults(z, 2, 0, 0);
        z.lift();
        drops(z, 5, 0);
        faults(z, 2, 0, 0);
    }

    private static void restsAtBars() {
        TinRoofScore x = barsOf(2, 2, 2, 2);
        x.leak(0, 3);
        x.leak(1, 1);
        x.rest(1);
        faults(x, 3, 1, 0);
        x.lift();
        x.drop(0, 0, 1);
        faults(x, 3, 0, 0);
        x.rest(0);
        faults(x, 3, 1, 1);
        x.rest(1);
        faults(x, 3, 2, 1);
        x.rest(0);
        faults(x, 3, 3, 1);
        TinRoofScore y = barsOf(2, 2, 2);
        y.leak(1, 1);
        y.drop(0, 0, 3);
        y.rest(1);
        faults(y, 3, 0, 0);
        y.rest(1);
        faults(y, 3, 1, 2);
    }

    private static void ties() {
        TinRoofScore x = barsOf(2, 2, 2, 2, 4);
        x.drop(0, 0, 4);
        faults(x, 4, 0, 0);
        x.lift();
        x.drop(0, 0, 5);
        faults(x, 4, 1, 0);
        x.lift();
        x.drop(0, 0, 8);
        faults(x, 4, 1, 0);
        x.lift();
        x.drop(0, 0, 1);
        x.drop(0, 0, 2);
        faults(x, 4, 0, 0);
        x.leak(0, 3);
        x.leak(1, 1);
        x.leak(2, 2);
        x.rest(1);
        faults(x, 4, 0, 0);
        x.rest(2);
        faults(x, 4, 0, 0);
        x.drop(0, 0, 1);
        x.rest(2);
        faults(x, 4, 1, 5);
        x.rest(0);
        faults(x, 4, 1, 5);
    }

    private static void clean() {
        TinRoofScore x = barsOf(2, 2, 2, 2, 2, 2);
        Due.is("clean and empty", x.isClean(), true);
        x.leak(0, 2);
        drops(x, 0, 5);
        Due.is("clean of 1", x.isClean(), false);
        x.tune(1, 4);
        Due.is("clean again", x.isClean(), true);
        x.tune(1, 0);
        drops(x, 0);
        Due.is("clean of 2", x.isClean(), false);
        x.tune(2, 1);
        Due.is("clean again", x.isClean(), true);
        x.drop(0, 1, 1);
        x.rest(0);
        Due.is("clean of 3", x.isClean(), false);
        x.lift();
        x.drop(0, 3, 5);
        Due.is("clean of 4", x.isClean(), false);
        Due.is("of 4 alone", x.faults(4, false), 1);
        Due.is("of 3 none", x.faults(3, false), 0);
    }

    private static void wouldFault() {
        TinRoofScore x = barsOf(2, 2, 2, 4);
        x.leak(0, 2);
        drops(x, 3, 3, 3);
        x.drop(0, 3, 5);
        x.rest(0);
        List<Object> before = Due.look(x);
        Due.is("now", x.wouldFault(1, 3), 3);
        Due.is("other height", x.wouldFault(1, 7), 1);
        Due.is("far height", x.wouldFault(1, 8), 3);
        Due.is("last drop", x.wouldFault(3, 9), 3);
        Due.is("state", Due.look(x), before);
        for (int sound : new int[] {LEAST, -1, 5, MOST}) {
            Due.fails("wouldFault " + sound, INDEX, () -> x.wouldFault(sound, 10));
            Due.fails("bestHeight " + sound, INDEX, () -> x.bestHeight(sound));
        }
        for (int height : new int[] {LEAST, -1, 10, MOST}) {
            Due.fails("wouldFault height", ARGUMENT, () -> x.wouldFault(4, height));
        }
        Due.fails("wouldFault rest", ELEMENT, () -> x.wouldFault(4, 0));
        Due.fails("bestHeight rest", ELEMENT, () -> x.bestHeight(4));
    }

    private static void bestHeight() {
        TinRoofScore x = barsOf(8);
        drops(x, 9, 9, 9);
        Due.is("lowest of several", x.bestHeight(1), 5);
        Due.is("best of first", x.bestHeight(0), 5);
        x.limit(11);
        Due.is("lowest with a great limit", x.bestHeight(1), 0);
        x.limit(1);
        Due.is("only one", x.bestHeight(1), 8);
        x.key(0, 4);
        Due.is("keys turn all", x.bestHeight(1), 8);
        TinRoofScore y = barsOf(8);
        y.key(1, 11);
        y.drop(0, 0, 1);
        y.drop(1, 9, 1);
        Due.is("height is not pitch", y.bestHeight(1), 1);
        Due.is("state", y.soundOf(1, 1), 9);
        TinRoofScore v = barsOf(8);
        v.key(1, 10);
        v.limit(1);
        v.drop(1, 0, 1);
        v.drop(0, 0, 1);
        v.drop(1, 0, 1);
        Due.is("only the greatest height", v.bestHeight(1), 9);
        TinRoofScore z = barsOf(8);
        z.drop(0, 7, 1);
        Due.is("alone", z.bestHeight(0), 0);
    }

    private static void tuneOf(TinRoofScore x, int walk, int ups, int downs) {
        Due.is("walk", x.walk(false), walk);
        Due.is("walk again", x.walk(true), walk);
        Due.is("goes up", x.goes(true), ups);
        Due.is("goes down", x.goes(false), downs);
    }

    private static void walkAndGoes() {
        TinRoofScore x = barsOf(8, 8);
        tuneOf(x, 0, 0, 0);
        x.leak(0, 1);
        x.rest(0);
        drops(x, 9);
        tuneOf(x, 0, 0, 0);
        x.rest(0);
        drops(x, 2);
        tuneOf(x, 7, 0, 1);
        drops(x, 2);
        tuneOf(x, 7, 0, 1);
        drops(x, 3, 0, 9);
        x.rest(0);
        tuneOf(x, 20, 2, 2);
        x.key(1, 11);
        x.drop(1, 0, 1);
        tuneOf(x, 22, 3, 2);
        x.drop(1, 1, 1);
        tuneOf(x, 33, 3, 3);
    }

    private static void spanAndPitches() {
        TinRoofScore x = barsOf(8, 8);
        Due.is("span of nothing", x.span(), 0);
        x.leak(0, 1);
        x.rest(0);
        Due.is("span of a rest", x.span(), 0);
        drops(x, 4);
        Due.is("span of one", x.span(), 0);
        drops(x, 9, 6);
        Due.is("span", x.span(), 5);
        x.key(3, 11);
        x.drop(3, 0, 1);
        x.drop(3, 1, 1);
        Due.is("greatest span", x.span(), 11);
        x.drop(3, 5, 1);
        int[] want = {1, 0, 0, 0, 2, 0, 1, 0, 0, 1, 0, 1};
        for (int pitch = 0; pitch < 12; pitch++) {
            Due.is("withPitch " + pitch, x.withPitch(pitch), want[pitch]);
        }
        for (int pitch : new int[] {LEAST, -1, 12, MOST}) {
            Due.fails("withPitch " + pitch, ARGUMENT, () -> x.withPitch(pitch));
        }
        TinRoofScore y = barsOf(8);
        drops(y, 9);
        Due.is("span of the first one", y.span(), 0);
        Due.is("withPitch of the first one", y.withPitch(9), 1);
        drops(y, 2);
        Due.is("span of two", y.span(), 7);
        drops(y, 3);
        Due.is("span from the first one", y.span(), 7);
    }

    private static void tinOrder(TinRoofScore x, int... want) {
        for (int place = 0; place < 4; place++) {
            Due.is("loudest " + place, x.loudest(place), want[place]);
        }
    }

    private static void loudest() {
        TinRoofScore x = barsOf(8, 8);
        tinOrder(x, 0, 1, 2, 3);
        x.key(2, 1);
        tinOrder(x, 2, 0, 1, 3);
        x.drop(3, 0, 3);
        x.leak(1, 2);
        x.rest(1);
        tinOrder(x, 3, 1, 2, 0);
        x.rest(1);
        tinOrder(x, 1, 3, 2, 0);
        x.drop(3, 0, 1);
        tinOrder(x, 1, 3, 2, 0);
        x.key(3, 11);
        tinOrder(x, 3, 1, 2, 0);
        for (int place : new int[] {LEAST, -1, 4, MOST}) {
            Due.fails("loudest " + place, ELEMENT, () -> x.loudest(place));
        }
    }

    private static void highest() {
        TinRoofScore x = barsOf(8, 8);
        Due.fails("highest of nothing", ELEMENT, () -> x.highest(0));
        x.leak(0, 3);
        x.rest(0);
        Due.fails("highest of a rest", ELEMENT, () -> x.highest(0));
        x.drop(0, 4, 1);
        x.drop(0, 4, 2);
        x.drop(0, 4, 1);
        x.drop(0, 9, 1);
        x.key(1, 11);
        x.drop(1, 9, 1);
        int[] want = {4, 5, 2, 1, 3};
        for (int place = 0; place < want.length; place++) {
            Due.is("highest " + place, x.highest(place), want[place]);
        }
        for (int place : new int[] {LEAST, -1, 5, 6, MOST}) {
            Due.fails("highest " + place, ELEMENT, () -> x.highest(place));
        }
        x.key(1, 2);
        Due.is("pitch 11 now", x.highest(0), 5);
        TinRoofScore y = barsOf(8, 8);
        drops(y, 3);
        Due.is("the first one alone", y.highest(0), 0);
        Due.fails("no second one", ELEMENT, () -> y.highest(1));
        for (int i = 1; i < 16; i++) {
            drops(y, 3);
        }
        for (int place = 0; place < 16; place++) {
            Due.is("sixteen alike " + place, y.highest(place), place);
        }
    }
}
