import java.util.List;
import java.util.NoSuchElementException;

/** The sentences of 'Terms' that name a bound, one method each, in the document's order. */
public final class TermsTest {
    private static final Class<IndexOutOfBoundsException> INDEX = IndexOutOfBoundsException.class;
    private static final Class<IllegalArgumentException> ARGUMENT = IllegalArgumentException.class;
    private static final Class<UnsupportedOperationException> REFUSED = UnsupportedOperationException.class;
    private static final Class<NoSuchElementException> ELEMENT = NoSuchElementException.class;
    private static final Class<IllegalStateException> STATE = IllegalStateException.class;
    private static final String BAD = "throws.IllegalArgumentException";

    private TermsTest() {
    }

    public static void main(String[] args) {
        atMost512Calls();
        aDropSoundsAsLongAsItWasSet();
        atMostSixBars();
        sizesFrom2To8();
        filledOneBehindTheOther();
        beatsNumberedOverTheEndsOfBars();
        tinsFrom0To3();
        keysFrom0To11();
        leaksFrom0To3();
        atMost16Sounds();
        heightsFrom0To9();
        beatsFrom1To8();
        aRestHasTheLeakOfThen();
        partsInEachBar();
        pitchesFrom12On();
        theKeyAsItIsNow();
        theDifferenceOfPitches();
        limitsFrom1To11();
        fartherThanTheLimit();
        thePitchOfBothDropsAhead();
        aRestAtTheFirstBeat();
        moreThanTwoParts();
        aRestThatIsTied();
        upDownOrNotAtAll();
        linesOfBars();
        fullAndEmptyBars();
        linesOfTins();
        atMost60Characters();
        oneOrTwoDigits();
        noOtherDigits();
        firstCharacterThatCannotContinue();
        textsThatEndTooEarly();
        wordsLetterByLetter();
        wholeOrNothing();
        theFirstOrderDecides();
        theFirstReasonThatApplies();
        changesThatCount();
        eightChanges();
        restoreForgetsAll();
        neitherUndoneNorSaved();
        Due.end();
    }

    private static TinRoofScore barsOf(int... sizes) {
        TinRoofScore x = new TinRoofScore();
        for (int size : sizes) {
            x.bar(size);
        }
        return x;
    }

    private static void drops(TinRoofScore x, int beats, int... heights) {
        for (int height : heights) {
            x.drop(0, height, beats);
        }
    }

    private static void faults(String what, TinRoofScore x, int rule, int count) {
        Due.is(what + " faults of " + rule, x.faults(rule, false), count);
        Due.is(what + " faults of " + rule + " again", x.faults(rule, true), count);
    }

    // An object is used for at most 512 calls after it has been made.
    private static void atMost512Calls() {
        TinRoofScore x = new TinRoofScore();
        for (int i = 1; i <= 511; i++) {
            Due.is("limit in call " + i, x.limit(1 + i % 11), i == 1 ? 4 : 1 + (i - 1) % 11);
        }
        Due.is("call 512", x.undo(), 7);
    }

    // A drop sounds as long as it was set.
    private static void aDropSoundsAsLongAsItWasSet() {
        TinRoofScore x = barsOf(8);
        x.drop(1, 3, 5);
        x.leak(1, 2);
        x.key(1, 7);
        x.tune(0, 4);
        Due.is("beats of the drop", x.soundOf(0, 2), 5);
        Due.is("its last beat", x.at(4), 0);
        Due.fails("behind it", ELEMENT, () -> x.at(5));
    }

    // At most 6 bars are there, numbered from 0.
    private static void atMostSixBars() {
        TinRoofScore x = new TinRoofScore();
        Due.fails("no bar 0 yet", INDEX, () -> x.barOf(0, 0));
        for (int i = 0; i < 6; i++) {
            Due.is("number", x.bar(3), i);
            Due.is("bars", x.account(0), i + 1);
            Due.is("there", x.barOf(i, 0), 3);
            int next = i + 1;
            Due.fails("not there", INDEX, () -> x.barOf(next, 0));
        }
        Due.fails("7th bar", REFUSED, () -> x.bar(3));
        Due.is("six bars", x.account(0), 6);
    }

    // Each with a size of 2 to 8 beats.
    private static void sizesFrom2To8() {
        for (int size = 2; size <= 8; size++) {
            TinRoofScore x = barsOf(size);
            Due.is("size", x.barOf(0, 0), size);
            Due.is("beats", x.account(1), size);
        }
        Due.fails("size 1", ARGUMENT, () -> new TinRoofScore().bar(1));
        Due.fails("size 9", ARGUMENT, () -> new TinRoofScore().bar(9));
    }

    // They are filled one behind the other, the bar 0 first.
    private static void filledOneBehindTheOther() {
        TinRoofScore x = barsOf(2, 3);
        int[][] want = {{1, 0}, {2, 0}, {2, 1}, {2, 2}, {2, 3}};
        for (int[] row : want) {
            x.drop(0, 0, 1);
            Due.is("filled of bar 0", x.barOf(0, 1), row[0]);
            Due.is("filled of bar 1", x.barOf(1, 1), row[1]);
        }
        x.lift();
        x.bar(4);
        x.drop(0, 0, 2);
        Due.is("the free beat of bar 1 first", x.barOf(1, 1), 3);
        Due.is("then bar 2", x.barOf(2, 1), 1);
    }

    // The beats of all bars are numbered from 0 on, over their ends.
    private static void beatsNumberedOverTheEndsOfBars() {
        TinRoofScore x = barsOf(2, 5, 8);
        int[] begins = {0, 2, 7};
        for (int bar = 0; bar < 3; bar++) {
            Due.is("begin of bar " + bar, x.barOf(bar, 4), begins[bar]);
        }
        x.drop(0, 0, 2);
        x.drop(0, 1, 5);
        x.drop(0, 2, 8);
        int[] want = {0, 0, 1, 1, 1, 1, 1, 2, 2, 2, 2, 2, 2, 2, 2};
        for (int beat = 0; beat < 15; beat++) {
            Due.is("at " + beat, x.at(beat), want[beat]);
        }
        Due.fails("behind all bars", ELEMENT, () -> x.at(15));
        Due.fails("ahead of all bars", ELEMENT, () -> x.at(-1));
        Due.is("begin of the last sound", x.soundOf(2, 5), 7);
        Due.is("its bar", x.soundOf(2, 6), 2);
    }

    // There are the tins 0 to 3.
    private static void tinsFrom0To3() {
        TinRoofScore x = barsOf(8, 8);
        for (int tin = 0; tin <= 3; tin++) {
            Due.is("key", x.key(tin, tin + 1), 0);
            Due.is("leak", x.leak(tin, 1), 0);
            Due.is("drop", x.drop(tin, 0, 1), 2 * tin);
            Due.is("rest", x.rest(tin), 2 * tin + 1);
            Due.is("key of it alone", x.tinOf(tin, 0), tin + 1);
            Due.is("tin of the drop", x.soundOf(2 * tin, 0), tin);
            Due.is("tin of the rest", x.soundOf(2 * tin + 1, 0), tin);
        }
        for (int tin : new int[] {-1, 4}) {
            Due.fails("key of " + tin, INDEX, () -> x.key(tin, 7));
            Due.fails("leak of " + tin, INDEX, () -> x.leak(tin, 2));
            Due.fails("drop of " + tin, INDEX, () -> x.drop(tin, 0, 1));
            Due.fails("rest of " + tin, INDEX, () -> x.rest(tin));
            Due.fails("tinOf " + tin, INDEX, () -> x.tinOf(tin, 0));
            Due.fails("tinLine " + tin, INDEX, () -> x.tinLine(tin));
        }
    }

    // Each with a key from 0 to 11.
    private static void keysFrom0To11() {
        TinRoofScore x = new TinRoofScore();
        for (int key = 11; key >= 0; key--) {
            Due.is("key before", x.key(2, key), key == 11 ? 0 : key + 1);
            Due.is("key", x.tinOf(2, 0), key);
        }
        Due.fails("key -1", ARGUMENT, () -> x.key(2, -1));
        Due.fails("key 12", ARGUMENT, () -> x.key(2, 12));
    }

    // And a leak from 0 to 3 beats.
    private static void leaksFrom0To3() {
        TinRoofScore x = new TinRoofScore();
        for (int leak = 3; leak >= 0; leak--) {
            Due.is("leak before", x.leak(1, leak), leak == 3 ? 0 : leak + 1);
            Due.is("leak", x.tinOf(1, 1), leak);
        }
        Due.fails("leak -1", ARGUMENT, () -> x.leak(1, -1));
        Due.fails("leak 4", ARGUMENT, () -> x.leak(1, 4));
    }

    // At most 16 sounds are set one behind the other, numbered from 0: drops, and rests.
    private static void atMost16Sounds() {
        TinRoofScore x = barsOf(8, 8, 8);
        x.leak(0, 1);
        Due.fails("no sound 0 yet", INDEX, () -> x.soundOf(0, 0));
        for (int i = 0; i < 16; i++) {
            Due.is("number", i % 2 == 0 ? x.drop(0, 0, 1) : x.rest(0), i);
            Due.is("begins behind the others", x.soundOf(i, 5), i);
        }
        Due.fails("17th drop", REFUSED, () -> x.drop(0, 0, 1));
        Due.fails("17th rest", REFUSED, () -> x.rest(0));
        Due.fails("no sound 16", INDEX, () -> x.soundOf(16, 0));
        Due.is("lift the 16th", x.lift(), 1);
        Due.is("a 16th again", x.drop(0, 0, 8), 15);
    }

    // A drop has a height from 0 to 9.
    private static void heightsFrom0To9() {
        TinRoofScore x = barsOf(8, 8);
        for (int height = 0; height <= 9; height++) {
            Due.is("drop", x.drop(0, height, 1), height);
            Due.is("height", x.soundOf(height, 1), height);
        }
        x.drop(0, 0, 1);
        for (int height = 1; height <= 9; height++) {
            Due.is("tune", x.tune(10, height), height - 1);
            Due.is("tuned height", x.soundOf(10, 1), height);
        }
        Due.is("tune back to 0", x.tune(10, 0), 9);
        for (int height : new int[] {-1, 10}) {
            Due.fails("drop " + height, ARGUMENT, () -> x.drop(0, height, 1));
            Due.fails("tune " + height, ARGUMENT, () -> x.tune(0, height));
            Due.fails("wouldFault " + height, ARGUMENT, () -> x.wouldFault(0, height));
        }
    }

    // And 1 to 8 beats.
    private static void beatsFrom1To8() {
        for (int beats = 1; beats <= 8; beats++) {
            TinRoofScore x = barsOf(8);
            Due.is("drop", x.drop(0, 0, beats), 0);
            Due.is("beats", x.soundOf(0, 2), beats);
            Due.is("filled", x.account(2), beats);
        }
        TinRoofScore x = barsOf(8, 8);
        Due.fails("drop of 0", ARGUMENT, () -> x.drop(0, 0, 0));
        Due.fails("drop of 9", ARGUMENT, () -> x.drop(0, 0, 9));
    }

    // A rest has as many beats as the tin leaks when it is set.
    private static void aRestHasTheLeakOfThen() {
        TinRoofScore x = barsOf(8);
        for (int leak = 1; leak <= 3; leak++) {
            x.leak(1, leak);
            x.rest(1);
        }
        x.leak(1, 0);
        for (int sound = 0; sound < 3; sound++) {
            Due.is("beats of rest " + sound, x.soundOf(sound, 2), sound + 1);
        }
        Due.fails("a rest of no leak", REFUSED, () -> x.rest(1));
        Due.is("beats of the tin", x.tinOf(1, 4), 6);
    }

    // A sound that does not end in the bar in which it begins has a part in each bar in which it is;
    // the parts behind the first one are tied to the one ahead.
    private static void partsInEachBar() {
        int[][] rows = {{0, 2, 1}, {0, 3, 2}, {0, 4, 2}, {0, 5, 3}, {1, 1, 1}, {1, 2, 2}, {1, 3, 2}, {1, 4, 3}, {0, 8, 4}, {1, 8, 5}};
        for (int[] row : rows) {
            TinRoofScore x = barsOf(2, 2, 2, 2, 2, 2);
            if (row[0] == 1) {
                x.drop(3, 0, 1);
            }
            int drop = x.drop(0, 0, row[1]);
            String what = "drop of " + row[1] + " from beat " + row[0];
            Due.is(what + " parts", x.soundOf(drop, 4), row[2]);
            Due.is(what + " all parts", x.account(6), row[2] + row[0]);
            for (int bar = 0; bar < 6; bar++) {
                int parts = (bar < row[2] ? 1 : 0) + (bar == 0 ? row[0] : 0);
                Due.is(what + " parts of bar " + bar, x.barOf(bar, 2), parts);
                int atBar = bar;
                Due.fails(what + " no such part of " + bar, INDEX, () -> x.partOf(atBar, parts, 0));
                if (bar < row[2]) {
                    Due.is(what + " sound of " + bar, x.partOf(bar, parts - 1, 0), drop);
                    Due.is(what + " tied in " + bar, x.partOf(bar, parts - 1, 2), bar == 0 ? 0 : 1);
                }
                Due.is(what + " begin in " + bar, x.barOf(bar, 3), bar == 0 ? 1 + row[0] : 0);
            }
        }
    }

    // Of which 12 are taken away if it is 12 or more.
    private static void pitchesFrom12On() {
        for (int key = 0; key <= 11; key++) {
            TinRoofScore x = barsOf(8, 8);
            if (key > 0) {
                x.key(0, key);
            }
            for (int height = 0; height <= 9; height++) {
                x.drop(0, height, 1);
                int want = key + height > 11 ? key + height - 12 : key + height;
                Due.is("pitch of key " + key + " and height " + height, x.soundOf(height, 3), want);
            }
        }
    }

    // The key of its tin, as it is now.
    private static void theKeyAsItIsNow() {
        TinRoofScore x = barsOf(8);
        x.drop(0, 4, 1);
        x.drop(1, 4, 1);
        x.key(0, 7);
        Due.is("pitch 11", x.soundOf(0, 3), 11);
        x.key(0, 8);
        Due.is("pitch 0", x.soundOf(0, 3), 0);
        Due.is("of the other tin", x.soundOf(1, 3), 4);
        Due.is("drops of pitch 0", x.withPitch(0), 1);
        x.undo();
        Due.is("pitch 11 again", x.soundOf(0, 3), 11);
    }

    // How far two pitches are from one another is their difference.
    private static void theDifferenceOfPitches() {
        TinRoofScore x = barsOf(8);
        x.key(1, 11);
        x.drop(0, 0, 1);
        x.drop(1, 0, 1);
        x.drop(0, 0, 1);
        x.limit(10);
        faults("0, 11, 0 with the limit 10", x, 1, 2);
        Due.is("walk", x.walk(false), 22);
        Due.is("walk again", x.walk(true), 22);
        Due.is("span", x.span(), 11);
    }

    // The limit, which is from 1 to 11; it is 4 at first.
    private static void limitsFrom1To11() {
        TinRoofScore x = new TinRoofScore();
        Due.is("limit of a new object", x.account(7), 4);
        for (int limit = 11; limit >= 1; limit--) {
            Due.is("limit before", x.limit(limit), limit == 11 ? 4 : limit + 1);
            Due.is("limit", x.account(7), limit);
        }
        Due.fails("limit 0", ARGUMENT, () -> x.limit(0));
        Due.fails("limit 12", ARGUMENT, () -> x.limit(12));
    }

    // Farther from that of the drop next ahead of it, rests left out, than the limit.
    private static void fartherThanTheLimit() {
        for (int limit = 1; limit <= 11; limit++) {
            for (int far = 0; far <= 11; far++) {
                TinRoofScore x = barsOf(8);
                x.leak(3, 1);
                x.key(1, 2);
                if (limit != 4) {
                    x.limit(limit);
                }
                x.rest(3);
                x.drop(0, 0, 1);
                x.rest(3);
                x.rest(3);
                x.drop(far > 9 ? 1 : 0, far > 9 ? far - 2 : far, 1);
                x.rest(3);
                String what = far + " with the limit " + limit;
                faults("up " + what, x, 1, far > limit ? 1 : 0);
                x.drop(0, 0, 1);
                faults("up and down " + what, x, 1, far > limit ? 2 : 0);
                if (far > limit) {
                    Due.is("first of " + what, x.firstFault(1), 4);
                }
            }
        }
    }

    // A drop that has the pitch of both drops next ahead of it, rests left out.
    private static void thePitchOfBothDropsAhead() {
        int[][] rows = {{0}, {5, 0}, {5, 5, 0}, {5, 5, 5, 1}, {5, 5, 5, 5, 2}, {5, 5, 6, 5, 0}, {5, 6, 5, 5, 0},
            {6, 5, 5, 5, 1}, {6, 5, 5, 0}, {5, 6, 5, 0}, {5, 5, 6, 0}, {0, 0, 0, 1}, {0, 0, 0}};
        for (int[] row : rows) {
            TinRoofScore x = barsOf(8, 8);
            x.leak(2, 1);
            x.rest(2);
            for (int i = 0; i < row.length - 1; i++) {
                x.drop(0, row[i], 1);
                x.rest(2);
            }
            faults("same " + java.util.Arrays.toString(row), x, 2, row[row.length - 1]);
        }
    }

    // A bar at whose first beat a rest begins or goes on.
    private static void aRestAtTheFirstBeat() {
        TinRoofScore x = barsOf(2, 3);
        x.leak(0, 1);
        x.leak(1, 2);
        x.leak(2, 3);
        faults("empty bars", x, 3, 0);
        x.rest(1);
        faults("begins in bar 0, ends with it", x, 3, 1);
        Due.is("bar 0", x.firstFault(3), 0);
        x.lift();
        x.drop(3, 0, 1);
        x.rest(0);
        faults("a rest at the last beat", x, 3, 0);
        x.drop(3, 0, 1);
        x.rest(1);
        faults("rests at other beats", x, 3, 0);
        x.lift();
        x.lift();
        x.lift();
        x.rest(1);
        faults("goes on", x, 3, 1);
        Due.is("bar 1", x.firstFault(3), 1);
        x.lift();
        x.drop(3, 0, 1);
        x.rest(2);
        faults("begins in bar 1", x, 3, 1);
        Due.is("bar 1 again", x.firstFault(3), 1);
    }

    // A fault of the rule 4 is a drop that has more than two parts.
    private static void moreThanTwoParts() {
        for (int beats = 1; beats <= 8; beats++) {
            TinRoofScore x = barsOf(2, 3, 8);
            x.drop(1, 0, beats);
            faults("drop of " + beats, x, 4, beats > 5 ? 1 : 0);
        }
        TinRoofScore x = barsOf(2, 2, 2, 2, 2, 2);
        x.drop(0, 0, 1);
        x.drop(0, 0, 4);
        x.drop(0, 0, 4);
        x.drop(0, 0, 3);
        faults("three parts, three parts, two parts", x, 4, 2);
        Due.is("the first of them", x.firstFault(4), 1);
    }

    // Or a rest that is tied.
    private static void aRestThatIsTied() {
        for (int leak = 1; leak <= 3; leak++) {
            for (int ahead = 0; ahead <= 3; ahead++) {
                TinRoofScore x = barsOf(4, 4);
                x.leak(0, leak);
                if (ahead > 0) {
                    x.drop(1, 0, ahead);
                }
                x.rest(0);
                faults("rest of " + leak + " behind " + ahead, x, 4, leak + ahead > 4 ? 1 : 0);
            }
        }
    }

    // The tune goes from each drop to the next one, rests left out, up, down or not at all.
    private static void upDownOrNotAtAll() {
        TinRoofScore x = barsOf(8, 8);
        x.leak(3, 1);
        int[][] want = {{5, 0, 0, 0}, {6, 1, 1, 0}, {6, 1, 1, 0}, {5, 2, 1, 1}, {9, 6, 2, 1}, {0, 15, 2, 2}};
        for (int[] row : want) {
            x.drop(0, row[0], 1);
            x.rest(3);
            Due.is("walk", x.walk(false), row[1]);
            Due.is("walk again", x.walk(true), row[1]);
            Due.is("up", x.goes(true), row[2]);
            Due.is("down", x.goes(false), row[3]);
        }
    }

    // "~" ahead if it is tied, the letter of its pitch, a to l, or "." for a rest, and its beats in this bar,
    // with a blank between two, and "_" and the beats that are free behind; as in "c2 .1 ~d1 _3".
    private static void linesOfBars() {
        TinRoofScore x = barsOf(3, 7);
        x.leak(1, 1);
        x.drop(0, 2, 2);
        x.rest(1);
        Due.is("without a tie", Due.barLine(x, 0), "c2 .1 _0");
        TinRoofScore y = barsOf(2, 7);
        y.leak(1, 2);
        y.drop(0, 1, 1);
        y.rest(1);
        y.drop(0, 3, 3);
        Due.is("tied rest", Due.barLine(y, 1), "~.1 d3 _3");
        for (int pitch = 0; pitch <= 11; pitch++) {
            TinRoofScore z = barsOf(2, 8);
            z.key(1, 2);
            z.drop(pitch > 9 ? 1 : 0, pitch > 9 ? pitch - 2 : pitch, 3);
            Due.is("letter of " + pitch, Due.barLine(z, 1), "~" + "abcdefghijkl".charAt(pitch) + "1 _7");
        }
    }

    // The line of a bar that is full ends with "_0", and that of an empty one is "_" and its size, without a
    // blank ahead.
    private static void fullAndEmptyBars() {
        for (int size = 2; size <= 8; size++) {
            TinRoofScore x = barsOf(size);
            Due.is("length of an empty line", x.line(0), 2);
            Due.is("empty bar", Due.barLine(x, 0), "_" + size);
            x.drop(0, 0, size - 1);
            Due.is("one beat free", Due.barLine(x, 0), "a" + (size - 1) + " _1");
            x.drop(0, 1, 1);
            Due.is("full bar", Due.barLine(x, 0), "a" + (size - 1) + " b1 _0");
        }
    }

    // The line of a tin is its key, "/" and its leak.
    private static void linesOfTins() {
        for (int key = 0; key <= 11; key++) {
            TinRoofScore x = new TinRoofScore();
            if (key > 0) {
                x.key(3, key);
            }
            Due.is("length", x.tinLine(3), key > 9 ? 4 : 3);
            Due.is("line", Due.tinLine(x, 3), key + "/0");
            x.leak(3, 3);
            Due.is("line with a leak", Due.tinLine(x, 3), key + "/3");
        }
    }

    // The input has at most 60 characters.
    private static void atMost60Characters() {
        TinRoofScore x = new TinRoofScore();
        for (int i = 1; i <= 60; i++) {
            Due.is("append " + i, x.append(';'), i);
        }
        Due.fails("append 61", STATE, () -> x.append(';'));
        Due.is("characters", x.account(10), 60);
        Due.fails("run", ARGUMENT, x::run);
        Due.is("append after run", x.append('b'), 1);
        String ahead = "key 0 11;key 0 10;key 0 11;key 0 10;key 0 11;key 0 10;";
        TinRoofScore y = new TinRoofScore();
        Due.is("the 60th is wrong", Due.runText(y, ahead + "bar 2x"), BAD);
        Due.is("position of the 60th", y.errorPosition(), 59);
        Due.is("60 characters, one order cut off", Due.runText(y, ahead + "limit "), BAD);
        Due.is("position behind the 60th", y.errorPosition(), 60);
        Due.is("60 characters", Due.runText(y, ahead.substring(0, 51) + "9;key 1 2"), 7);
        Due.is("the last one is read", y.tinOf(1, 0), 2);
    }

    // Keys, limits and sounds have one or two digits.
    private static void oneOrTwoDigits() {
        TinRoofScore x = barsOf(8, 8);
        drops(x, 1, 0, 0, 0, 0, 0, 0, 0, 0, 0, 0, 0);
        Due.is("one digit", Due.runText(x, "key 0 9;limit 9;tune 9 9"), 3);
        Due.is("two digits", Due.runText(x, "key 0 10;limit 10;tune 10 9"), 3);
        Due.is("two digits, the first one 0", Due.runText(x, "key 0 09;limit 09;tune 09 8"), 3);
        Due.is("key", x.tinOf(0, 0), 9);
        Due.is("limit", x.account(7), 9);
        Due.is("height", x.soundOf(9, 1), 8);
        Due.is("height of 10", x.soundOf(10, 1), 9);
        String[] three = {"key 0 010", "limit 010", "tune 010 8"};
        for (String text : three) {
            Due.is(text, Due.runText(x, text), BAD);
            Due.is("position of " + text, x.errorPosition(), text.indexOf("010") + 2);
        }
    }

    // All other numbers one.
    private static void noOtherDigits() {
        String[] texts = {"bar 02", "key 00 1", "leak 00 1", "leak 0 01", "drop 00 1 1", "drop 0 01 1", "drop 0 1 01", "rest 00", "tune 0 01"};
        int[] want = {5, 5, 6, 8, 6, 8, 10, 6, 8};
        for (int i = 0; i < texts.length; i++) {
            TinRoofScore x = barsOf(8);
            x.drop(0, 0, 1);
            x.leak(0, 1);
            Due.is(texts[i], Due.runText(x, texts[i]), BAD);
            Due.is("position of " + texts[i], x.errorPosition(), want[i]);
        }
    }

    private static final String[] ORDERS = {
        "bar 2", "key 1 11", "leak 3 1", "drop 2 9 8", "rest 0", "lift", "limit 11", "tune 15 9",
    };

    // The offset of the first character that cannot continue such a text.
    private static void firstCharacterThatCannotContinue() {
        for (String order : ORDERS) {
            for (int i = 0; i <= order.length(); i++) {
                for (char c : new char[] {'#', 'z', '/', ':', 'B', '\n', '\u0000', '\u0132', '\uffff'}) {
                    expectError(order.substring(0, i) + c + order.substring(i), i);
                    expectError("lift;" + order.substring(0, i) + c, 5 + i);
                }
            }
        }
        for (char c = '/'; c <= ':'; c++) {
            boolean isDigit = c >= '0' && c <= '9';
            expectError("bar " + c + "x", isDigit ? 5 : 4);
            expectError("key 0 1" + c + "x", isDigit ? 8 : 7);
        }
        expectError("bar 2 ", 5);
        expectError("bar  2", 4);
        expectError(" bar 2", 0);
        expectError("bar 2; bar 2", 6);
        expectError(";bar 2", 0);
        expectError("bar 2;;bar 2", 6);
        expectError("bar 2,bar 2", 5);
        expectError("bar 9x", 5);
    }

    // Or the length of the text if it ends too early.
    private static void textsThatEndTooEarly() {
        for (String order : ORDERS) {
            for (int i = 0; i < order.length(); i++) {
                boolean isWhole = i == order.length() - 1 && (order.endsWith(" 11") || order.equals("drop"));
                if (!isWhole) {
                    expectError(order.substring(0, i), i);
                    expectError("lift;bar 2;" + order.substring(0, i), 11 + i);
                }
            }
            expectError(order + ";", order.length() + 1);
        }
    }

    private static void expectError(String text, int position) {
        TinRoofScore x = new TinRoofScore();
        Due.is("new errorPosition", x.errorPosition(), -1);
        Due.is("run " + text, Due.runText(x, text), BAD);
        Due.is("errorPosition of " + text, x.errorPosition(), position);
        Due.is("input after " + text, x.account(10), 0);
        Due.is("changes after " + text, x.account(11), 0);
    }

    // Words are looked at letter by letter.
    private static void wordsLetterByLetter() {
        String[] words = {"bar", "key", "leak", "drop", "rest", "lift", "limit", "tune"};
        for (String word : words) {
            for (int i = 0; i < word.length(); i++) {
                for (char c = 'a'; c <= 'z'; c++) {
                    String start = word.substring(0, i) + c;
                    boolean isStart = false;
                    for (String other : words) {
                        isStart |= other.startsWith(start);
                    }
                    if (isStart) {
                        expectError(start + "#", i + 1);
                    } else {
                        expectError(start, i);
                    }
                }
            }
        }
    }

    // A text is carried out if each order can be, one after the other; else nothing of it is.
    private static void wholeOrNothing() {
        TinRoofScore x = new TinRoofScore();
        Due.is("each needs the one ahead", Due.runText(x, "bar 2;leak 0 1;rest 0;drop 1 5 1;tune 1 6;lift;lift"), 7);
        Due.is("bars", x.account(0), 1);
        Due.is("sounds set", x.account(8), 2);
        Due.is("sounds taken", x.account(9), 2);
        Due.is("leak", x.tinOf(0, 1), 1);
        String[] texts = {"bar 3;key 0 5;limit 9;drop 0 0 1;lift;leak 0 1", "bar 3;key 0 5;limit 9;drop 0 0 1;lift;leak 0 4"};
        for (int i = 0; i < 2; i++) {
            List<Object> before = Due.look(x);
            Due.is("the last cannot be", Due.runText(x, texts[i]), i == 0 ? "throws.UnsupportedOperationException" : BAD);
            Due.is("nothing of it", Due.look(x), before);
        }
        Due.is("before the text", x.undo(), 0);
        Due.is("no bar", x.account(0), 0);
    }

    // The first order that cannot be decides what is thrown.
    private static void theFirstOrderDecides() {
        String refused = "throws.UnsupportedOperationException";
        Object[][] rows = {{"lift;bar 1", refused, 5}, {"bar 1;lift", BAD, 0}, {"lift;limit 4", refused, 5}, {"limit 4;lift", refused, 2},
            {"bar 2;rest 4;lift", BAD, 0}, {"bar 2;rest 0;rest 4", refused, 4}, {"tune 0 0;lift", BAD, 0}, {"lift;lift;x", BAD, 0}};
        for (Object[] row : rows) {
            TinRoofScore x = new TinRoofScore();
            Due.is("run " + row[0], Due.runText(x, (String) row[0]), row[1]);
            if (row[1].equals(refused)) {
                Due.is("reason of " + row[0], x.refusal(false), row[2]);
            } else {
                Due.fails("no reason of " + row[0], ELEMENT, () -> x.refusal(false));
            }
        }
    }

    // Refused for the first that applies of the reasons that its method names, in the order in which it names them.
    private static void theFirstReasonThatApplies() {
        TinRoofScore x = barsOf(8, 8, 2);
        x.key(2, 6);
        x.leak(1, 3);
        drops(x, 1, 0, 0, 0, 0, 0, 0, 0, 0, 0, 0, 0, 0, 0, 0, 0, 0);
        reason("1 ahead of 3 for drop", x, 1, 16, () -> x.drop(0, 0, 8));
        reason("1 ahead of 3 for rest", x, 1, 16, () -> x.rest(1));
        reason("4 ahead of 1 for rest", x, 4, 6, () -> x.rest(2));
        x.lift();
        reason("3 for drop", x, 3, 3, () -> x.drop(0, 0, 4));
        x.drop(0, 0, 1);
        x.lift();
        x.drop(0, 0, 3);
        x.lift();
        x.lift();
        x.drop(0, 0, 4);
        reason("3 for drop with no beat free", x, 3, 0, () -> x.drop(0, 0, 1));
        reason("3 for rest with no beat free", x, 3, 0, () -> x.rest(1));
        reason("4 ahead of 3 for rest", x, 4, 6, () -> x.rest(2));
        TinRoofScore y = barsOf(3);
        y.leak(0, 3);
        y.rest(0);
        reason("6 for tune", y, 6, 3, () -> y.tune(0, 0));
        y.leak(0, 1);
        reason("6 with the beats of the rest", y, 6, 3, () -> y.tune(0, 9));
        TinRoofScore z = barsOf(2, 2, 2, 2, 2);
        reason("5 with the bars", z, 5, 5, z::lift);
        z.bar(2);
        reason("5 with all bars", z, 5, 6, z::lift);
        reason("1 with the bars", z, 1, 6, () -> z.bar(2));
    }

    private static void reason(String what, TinRoofScore x, int reason, int detail, Due.Call call) {
        Due.fails(what, REFUSED, call);
        Due.is(what + " reason", x.refusal(false), reason);
        Due.is(what + " detail", x.refusal(true), detail);
    }

    // The changes are the successful calls of bar, key, leak, drop, rest, lift, limit, tune and run.
    private static void changesThatCount() {
        TinRoofScore x = new TinRoofScore();
        x.bar(8);
        x.key(0, 1);
        x.leak(0, 1);
        x.drop(0, 0, 1);
        x.rest(0);
        Due.is("five changes", x.account(11), 5);
        x.limit(5);
        x.tune(0, 1);
        Due.is("seven changes", x.account(11), 7);
        x.lift();
        Due.is("eight changes", x.account(11), 8);
        TinRoofScore y = new TinRoofScore();
        Due.is("a text that leaves all as it is", Due.runText(y, "limit 5;limit 4"), 2);
        Due.is("is one change", y.account(11), 1);
        Due.fails("refused", REFUSED, () -> y.limit(4));
        Due.fails("out of range", ARGUMENT, () -> y.limit(0));
        Due.is("a refused text", Due.runText(y, "limit 5;lift"), "throws.UnsupportedOperationException");
        Due.is("a wrong text", Due.runText(y, "limit 5;"), BAD);
        y.save();
        y.tinLine(0);
        y.append('b');
        Due.is("are no changes", y.account(11), 1);
        Due.is("undo", y.undo(), 0);
        Due.is("undo is no change", y.account(11), 0);
    }

    // The latest 8 can be undone.
    private static void eightChanges() {
        for (int changes = 7; changes <= 26; changes++) {
            TinRoofScore x = new TinRoofScore();
            for (int i = 1; i <= changes; i++) {
                x.key(0, 1 + i % 11);
            }
            int undoable = Math.min(changes, 8);
            Due.is("after " + changes, x.account(11), undoable);
            for (int i = 1; i <= undoable; i++) {
                Due.is("undo " + i + " of " + changes, x.undo(), undoable - i);
                Due.is("can still be undone", x.account(11), undoable - i);
                Due.is("key then", x.tinOf(0, 0), changes == i ? 0 : 1 + (changes - i) % 11);
            }
            Due.fails("undo behind " + changes, STATE, x::undo);
            Due.is("key stays", x.tinOf(0, 0), changes <= 8 ? 0 : 1 + (changes - 8) % 11);
        }
    }

    // Restore forgets all.
    private static void restoreForgetsAll() {
        TinRoofScore x = new TinRoofScore();
        Due.fails("restore without a snapshot", STATE, x::restore);
        x.limit(5);
        Due.fails("restore without a snapshot", STATE, x::restore);
        Due.is("forgets nothing then", x.account(11), 1);
        x.save();
        for (int i = 0; i < 9; i++) {
            x.limit(i % 2 == 0 ? 6 : 7);
        }
        x.restore();
        Due.is("none can be undone", x.account(11), 0);
        Due.fails("undo", STATE, x::undo);
        Due.is("limit of the snapshot", x.account(7), 5);
        x.limit(8);
        Due.is("undo to the snapshot", x.undo(), 0);
        Due.is("limit of the snapshot again", x.account(7), 5);
        Due.fails("undo behind the snapshot", STATE, x::undo);
    }

    // The input, the line, the error position and the reason are neither undone nor saved, and stay.
    private static void neitherUndoneNorSaved() {
        TinRoofScore x = new TinRoofScore();
        x.save();
        Due.runText(x, "bar 2;drop 0 3 1");
        x.line(0);
        Due.runText(x, "bar 2;key 0 12");
        Due.runText(x, "bar 2;bux");
        Due.fails("refused", REFUSED, () -> x.limit(4));
        x.append('b');
        x.append('a');
        for (int i = 0; i < 2; i++) {
            Due.is(i == 0 ? "undo" : "restore", i == 0 ? x.undo() : x.restore(), 0);
            Due.is("bars", x.account(0), 0);
            Due.is("input", x.account(10), 2);
            Due.is("line", Due.signs(x), "d1 _1");
            Due.is("error position", x.errorPosition(), 7);
            Due.is("reason", x.refusal(false), 2);
            Due.is("detail", x.refusal(true), 4);
        }
        Due.is("the input goes on", Due.runText(x, "r 5"), 1);
        Due.is("undo of the text", x.undo(), 0);
        Due.is("the input stays empty", x.account(10), 0);
        Due.is("no error", x.errorPosition(), -1);
    }
}
