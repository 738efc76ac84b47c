import java.lang.reflect.Field;
import java.util.List;
import java.util.NoSuchElementException;

/** Promises 26 to 39: lines, orders, accounts, undo and snapshot. */
public final class TextsAndUndoTest {
    private static final Class<IndexOutOfBoundsException> INDEX = IndexOutOfBoundsException.class;
    private static final Class<IllegalArgumentException> ARGUMENT = IllegalArgumentException.class;
    private static final Class<IllegalStateException> STATE = IllegalStateException.class;
    private static final Class<NoSuchElementException> ELEMENT = NoSuchElementException.class;
    private static final String BAD = "throws.IllegalArgumentException";
    private static final String REFUSED = "throws.UnsupportedOperationException";
    private static final int LEAST = Integer.MIN_VALUE;
    private static final int MOST = Integer.MAX_VALUE;

    private TextsAndUndoTest() {
    }

    public static void main(String[] args) {
        barLines();
        tinLines();
        character();
        append();
        runOrders();
        runWhole();
        runRefusals();
        runOutOfRange();
        errorPositions();
        shorterTexts();
        refusal();
        account();
        well();
        notWell();
        meanPitch();
        filledShare();
        undo();
        undoEach();
        saveAndRestore();
        otherSoundsBetween();
        Due.end();
    }

    private static TinRoofScore made(String... texts) {
        TinRoofScore x = new TinRoofScore();
        for (String text : texts) {
            Object answer = Due.runText(x, text);
            Due.is("made " + text, answer, text.split(";").length);
        }
        return x;
    }

    private static void barLines() {
        TinRoofScore x = made("bar 2;bar 7;bar 8;key 1 3;leak 1 1;drop 1 9 1");
        Due.is("one part", Due.barLine(x, 0), "a1 _1");
        Due.is("empty bar", Due.barLine(x, 1), "_7");
        x.lift();
        Due.is("empty first bar", Due.barLine(x, 0), "_2");
        Due.runText(x, "drop 0 2 2;rest 1;drop 1 0 3;drop 1 8 4");
        Due.is("full bar", Due.barLine(x, 0), "c2 _0");
        Due.is("rest and tie ahead", Due.barLine(x, 1), ".1 d3 l3 _0");
        Due.is("tied part", Due.barLine(x, 2), "~l1 _7");
        Due.runText(x, "leak 1 3;rest 1;bar 2");
        Due.is("rest in it", Due.barLine(x, 2), "~l1 .3 _4");
        Due.runText(x, "drop 0 0 3;rest 1");
        Due.is("tied rest ahead", Due.barLine(x, 2), "~l1 .3 a3 .1 _0");
        Due.is("tied rest", Due.barLine(x, 3), "~.2 _0");
        for (int bar : new int[] {LEAST, -1, 4, MOST}) {
            Due.fails("line " + bar, INDEX, () -> x.line(bar));
        }
        Due.is("line stays", x.character(1), '.');
        TinRoofScore y = made("bar 8;bar 2;drop 0 0 1;drop 0 1 1;drop 0 2 1;drop 0 3 1");
        Due.is("four more", Due.runText(y, "drop 0 4 1;drop 0 5 1;drop 0 6 1;drop 0 7 1"), 4);
        Due.is("longest line", Due.barLine(y, 0), "a1 b1 c1 d1 e1 f1 g1 h1 _0");
        TinRoofScore z = made("bar 2;bar 8;drop 0 0 1;drop 0 9 2;drop 0 1 1;drop 0 2 1");
        Due.is("five more", Due.runText(z, "drop 0 3 1;drop 0 4 1;drop 0 5 1;drop 0 6 1;drop 0 7 1"), 5);
        Due.is("longest tied line", Due.barLine(z, 1), "~j1 b1 c1 d1 e1 f1 g1 h1 _0");
    }

    private static void tinLines() {
        TinRoofScore x = made("key 0 9;key 1 10;key 2 11;leak 2 3;leak 3 1");
        Due.is("tinLine 0", Due.tinLine(x, 0), "9/0");
        Due.is("tinLine 1", Due.tinLine(x, 1), "10/0");
        Due.is("tinLine 2", Due.tinLine(x, 2), "11/3");
        Due.is("tinLine 3", Due.tinLine(x, 3), "0/1");
        for (int tin : new int[] {LEAST, -1, 4, MOST}) {
            Due.fails("tinLine " + tin, INDEX, () -> x.tinLine(tin));
        }
        Due.is("line stays", x.character(2), '1');
    }

    private static void character() {
        TinRoofScore x = made("bar 4;drop 0 0 4");
        Due.fails("empty at first", INDEX, () -> x.character(0));
        x.line(0);
        Due.is("character 0", x.character(0), 'a');
        Due.is("character 4", x.character(4), '0');
        for (int index : new int[] {LEAST, -1, 5, MOST}) {
            Due.fails("character " + index, INDEX, () -> x.character(index));
        }
        x.tinLine(0);
        Due.fails("shorter line in its place", INDEX, () -> x.character(3));
        x.save();
        x.line(0);
        x.undo();
        x.restore();
        Due.is("line is neither undone nor saved", x.character(0), 'a');
        Due.is("line is not written anew", x.character(4), '0');
    }

    private static void append() {
        TinRoofScore x = new TinRoofScore();
        for (int i = 1; i <= 60; i++) {
            Due.is("append " + i, x.append(i % 2 == 0 ? '\u0000' : '\uffff'), i);
        }
        Due.fails("append 61", STATE, () -> x.append('a'));
        Due.is("input", x.account(10), 60);
        Due.fails("run", ARGUMENT, x::run);
        Due.is("error", x.errorPosition(), 0);
        Due.is("empty", x.account(10), 0);
        Due.is("append again", x.append('l'), 1);
        x.save();
        Due.is("append again", x.append('i'), 2);
        x.restore();
        Due.is("input is not saved", x.account(10), 2);
        x.bar(2);
        x.undo();
        Due.is("input is not undone", x.account(10), 2);
        Due.is("no change", x.account(11), 0);
    }

    private static void runOrders() {
        TinRoofScore x = made("bar 8;key 3 11;leak 3 2;drop 3 9 1;rest 3;limit 10;tune 0 1");
        Due.is("key", x.tinOf(3, 0), 11);
        Due.is("leak", x.tinOf(3, 1), 2);
        Due.is("limit", x.account(7), 10);
        Due.is("line", Due.barLine(x, 0), "a1 .2 _5");
        Due.is("one change", x.account(11), 1);
        Due.is("lift", Due.runText(x, "lift;lift"), 2);
        Due.is("sounds", x.account(3), 0);
        Due.is("taken", x.account(9), 2);
        Due.is("two digits", Due.runText(x, "key 3 00;limit 09"), 2);
        Due.is("key", x.tinOf(3, 0), 0);
        Due.is("limit", x.account(7), 9);
        TinRoofScore y = made("bar 8;bar 8");
        for (int i = 0; i < 11; i++) {
            y.drop(0, 0, 1);
        }
        Due.is("sound of two digits", Due.runText(y, "tune 10 5;tune 09 4;tune 8 3"), 3);
        Due.is("tuned", y.soundOf(10, 1) + 10 * y.soundOf(9, 1) + 100 * y.soundOf(8, 1), 345);
        y.bar(8);
        y.drop(0, 0, 1);
        Due.is("twelve orders", Due.runText(y, "lift;lift;lift;lift;lift;lift;lift;lift;lift;lift;lift;lift"), 12);
        Due.is("no sounds", y.account(3), 0);
        Due.is("undo of a text", y.undo(), 7);
        Due.is("all twelve back", y.account(3), 12);
    }

    private static void unchanged(TinRoofScore x, String text, Object want) {
        List<Object> before = Due.look(x);
        Due.is("run " + text, Due.runText(x, text), want);
        Due.is("input after " + text, x.account(10), 0);
        Due.is("state after " + text, Due.look(x), before);
    }

    private static void runWhole() {
        TinRoofScore x = made("bar 4;leak 1 2;drop 0 5 1");
        unchanged(x, "bar 2;key 0 3;drop 0 9 1;lift;rest 1;limit 3;limit 3", REFUSED);
        Due.is("reason", x.refusal(false), 2);
        Due.is("detail", x.refusal(true), 3);
        Due.is("no error", x.errorPosition(), -1);
        unchanged(x, "bar 2;lift;lift;bar 9", REFUSED);
        Due.is("the first decides", x.refusal(false), 5);
        Due.is("as it is then", x.refusal(true), 2);
        unchanged(x, "bar 2;bar 9;bar 2;bar 2;bar 2;bar 2;bar 2", BAD);
        Due.is("the first decides", x.refusal(false), 5);
        unchanged(x, "bar 2;bar", BAD);
        Due.is("nothing of it", x.account(0), 1);
    }

    private static void runRefusals() {
        refused("bar 2;bar 2;bar 2;bar 2;bar 2;bar 2", 1, 6);
        refused("key 2 7", 2, 7);
        refused("leak 1 2", 2, 2);
        refused("drop 3 0 2", 3, 1);
        refused("rest 2", 4, 7);
        refused("rest 1", 3, 1);
        refused("lift;lift;lift", 5, 1);
        refused("limit 4", 2, 4);
        refused("tune 1 5", 6, 2);
        refused("tune 0 5", 2, 5);
    }

    private static void refused(String text, int reason, int detail) {
        TinRoofScore x = made("bar 4;leak 1 2;key 2 7;drop 0 5 1;rest 1");
        unchanged(x, text, REFUSED);
        Due.is(text + " reason", x.refusal(false), reason);
        Due.is(text + " detail", x.refusal(true), detail);
        Due.is(text + " position", x.errorPosition(), -1);
    }

    private static void runOutOfRange() {
        String[] texts = {
            "bar 1", "bar 9", "bar 0", "key 4 0", "key 0 12", "key 9 99", "leak 4 0", "leak 0 4", "drop 4 0 1",
            "drop 0 0 0", "drop 0 0 9", "rest 4", "limit 0", "limit 12", "limit 00", "tune 1 0", "tune 16 0", "tune 99 9",
        };
        for (String text : texts) {
            TinRoofScore x = made("bar 4;drop 0 5 1");
            x.append('x');
            Due.fails("run x", ARGUMENT, x::run);
            Due.is("position of x", x.errorPosition(), 0);
            unchanged(x, text, BAD);
            Due.is("position of " + text, x.errorPosition(), -1);
            Due.fails("no refusal by " + text, ELEMENT, () -> x.refusal(false));
        }
    }

    private static void errorPositions() {
        Object[][] rows = {
            {"", 0}, {"x", 0}, {" bar 4", 0}, {";", 0}, {"B", 0}, {"b", 1}, {"ba", 2}, {"bar", 3}, {"bar ", 4},
            {"bar  4", 4}, {"bar4", 3}, {"bar x", 4}, {"bar 44", 5}, {"bar 4 ", 5}, {"bar 4;", 6}, {"bar 4; ", 6},
            {"bar 4;;", 6}, {"bar -4", 4}, {"bar :", 4}, {"bar /", 4}, {"limit 1:", 7}, {"br", 1}, {"l", 1}, {"lx", 1}, {"lex", 2}, {"lim", 3}, {"lip", 2},
            {"lifx", 3}, {"lift ", 4}, {"liftt", 4}, {"lift 0", 4}, {"lift;l", 6}, {"lift;lift;lo", 11},
            {"key 0", 5}, {"key 00", 5}, {"key 0 ", 6}, {"key 0 123", 8}, {"key 0 1 ", 7}, {"key 0 1x", 7}, {"kex", 2},
            {"leak 0 00", 8}, {"leak 10 0", 6}, {"drop 0 0", 8}, {"drop 0 0 ", 9}, {"drop 0 0 11", 10}, {"dr0p", 2},
            {"drop 0 10 1", 8}, {"rest", 4}, {"rest 00", 6}, {"rest 0 0", 6}, {"limit 123", 8}, {"limit", 5},
            {"limit 1 1", 7}, {"tune 123 0", 7}, {"tune 12", 7}, {"tune 1 10", 8}, {"tune 1;", 6}, {"tune 1 ;", 7},
            {"tun 1 1", 3}, {"lift\n", 4}, {"lif\u0174", 3}, {"bar \u0664", 4},
            {"lift;lift;lift;lift;lift;lift;lift;lift;lift;lift;lift;lift;", 60},
            {"bar 4;bar 4;bar 4;bar 4;bar 4;bar 4;bar 4;bar 4;bar 4;bar 4;", 60},
        };
        TinRoofScore x = new TinRoofScore();
        int calls = 1;
        for (Object[] row : rows) {
            String text = (String) row[0];
            calls += text.length() + 2;
            if (calls > 512) {
                x = new TinRoofScore();
                calls = text.length() + 3;
            }
            Due.is("run " + text, Due.runText(x, text), BAD);
            Due.is("errorPosition of " + text, x.errorPosition(), row[1]);
        }
        TinRoofScore y = new TinRoofScore();
        Due.is("not run", y.errorPosition(), -1);
        Due.runText(y, "bar");
        y.append('b');
        Due.is("stays while the input grows", y.errorPosition(), 3);
        y.save();
        y.bar(3);
        y.undo();
        y.restore();
        Due.is("neither undone nor saved", y.errorPosition(), 3);
        Due.is("right text", Due.runText(y, "ar 3"), 1);
        Due.is("no error", y.errorPosition(), -1);
    }

    private static void shorterTexts() {
        TinRoofScore x = made("key 0 11", "bar 4;bar 5");
        Due.is("one digit where there were two", Due.runText(x, "key 0 1"), 1);
        Due.is("key", x.tinOf(0, 0), 1);
        Due.is("one order where there were two", Due.runText(x, "bar 6"), 1);
        Due.is("bars", x.account(0), 3);
        String[] texts = {"bar ", "bar", "b", "", "limit 11;limit", "limit ", "key 0 ", "key 0", "bar 4;"};
        for (String text : texts) {
            TinRoofScore y = made("bar 5;key 0 9;limit 7", "key 0 11;limit 11", "limit 10;key 0 2", "bar 4;bar 3");
            Due.is("run " + text, Due.runText(y, text), BAD);
            Due.is("ends too early: " + text, y.errorPosition(), text.length());
        }
    }

    private static void refusal() {
        TinRoofScore x = new TinRoofScore();
        Due.fails("wrong number", ARGUMENT, () -> x.bar(0));
        Due.fails("nothing refused, reason", ELEMENT, () -> x.refusal(false));
        Due.fails("nothing refused, detail", ELEMENT, () -> x.refusal(true));
        x.save();
        Due.fails("lift", UnsupportedOperationException.class, x::lift);
        Due.is("reason", x.refusal(false), 5);
        Due.is("detail", x.refusal(true), 0);
        Due.fails("limit", UnsupportedOperationException.class, () -> x.limit(4));
        Due.is("latest reason", x.refusal(false), 2);
        Due.is("latest detail", x.refusal(true), 4);
        x.bar(4);
        x.undo();
        x.restore();
        Due.is("neither undone nor saved", x.refusal(false), 2);
    }

    private static void account() {
        TinRoofScore x = made("bar 3;bar 4;bar 2;leak 0 2;limit 7", "drop 1 1 2;rest 0;drop 2 2 1", "lift", "drop 2 3 2");
        x.append('q');
        int[] want = {3, 9, 6, 3, 2, 1, 4, 7, 4, 1, 1, 4};
        for (int what = 0; what < 12; what++) {
            Due.is("account " + what, x.account(what), want[what]);
        }
        for (int what : new int[] {LEAST, -1, 12, MOST}) {
            Due.fails("account " + what, ARGUMENT, () -> x.account(what));
        }
        x.lift();
        Due.is("set so far stays", x.account(8), 4);
        Due.is("taken so far", x.account(9), 2);
    }

    private static void well() {
        TinRoofScore x = new TinRoofScore();
        Due.is("well and empty", x.isWell(), true);
        for (String text : new String[] {"bar 2;bar 3;bar 4;leak 1 3;key 2 8", "drop 0 9 1;rest 1;drop 2 3 5", "lift"}) {
            Due.runText(x, text);
            Due.is("well after " + text, x.isWell(), true);
        }
        x.undo();
        Due.is("well after undo", x.isWell(), true);
        TinRoofScore y = made("bar 2;bar 2;bar 2;limit 1;drop 0 9 6");
        Due.is("well with one drop in three bars", y.isWell(), true);
        TinRoofScore z = made("bar 8;drop 0 0 4;drop 0 0 4;lift;lift;drop 0 0 8");
        Due.is("well behind lifts", z.isWell(), true);
    }

    // No call can make it so, and a test that cannot fail tells nothing: so the rows are spoilt from outside.
    private static void notWell() {
        Due.is("well as it is", spoilt("lengths", 2, 3).isWell(), true);
        Due.is("parts without all beats", spoilt("lengths", 2, 5).isWell(), false);
        Due.is("bars too small for the sounds", spoilt("sizes", 1, 1).isWell(), false);
        Due.is("a pitch below 0", spoilt("heights", 0, -3).isWell(), false);
        Due.is("a pitch above 11", spoilt("heights", 0, 30).isWell(), false);
        Due.is("a pitch that is none", spoilt("keys", 0, -2).isWell(), false);
    }

    private static TinRoofScore spoilt(String row, int index, int number) {
        TinRoofScore x = made("bar 4;bar 4;leak 1 1", "drop 0 1 3;rest 1;drop 2 9 3");
        try {
            Field print = TinRoofScore.class.getDeclaredField("print");
            print.setAccessible(true);
            Field cells = print.getType().getDeclaredField(row);
            cells.setAccessible(true);
            ((int[]) cells.get(print.get(x)))[index] = number;
        } catch (ReflectiveOperationException e) {
            Due.is("row " + row + " is there", false, true);
        }
        return x;
    }

    private static void meanPitch() {
        TinRoofScore x = made("bar 8;leak 0 1;rest 0");
        Due.fails("mean of nothing", ArithmeticException.class, x::meanPitch);
        x.drop(0, 0, 1);
        Due.is("mean of 0", x.meanPitch(), 0.0);
        x.drop(0, 1, 1);
        Due.is("mean of 0 and 1", x.meanPitch(), 0.5);
        x.key(1, 10);
        x.drop(1, 9, 3);
        Due.is("mean of 0, 1 and 7", x.meanPitch(), 8.0 / 3.0);
        TinRoofScore y = made("bar 8;key 2 9;drop 2 2 8");
        Due.is("mean of one of 11", y.meanPitch(), 11.0);
        y.key(2, 10);
        Due.is("mean of one of 12, which is 0", y.meanPitch(), 0.0);
    }

    private static void filledShare() {
        TinRoofScore x = new TinRoofScore();
        Due.fails("share of nothing", ArithmeticException.class, x::filledShare);
        x.bar(3);
        Due.is("empty", x.filledShare(), 0.0f);
        x.drop(0, 0, 1);
        Due.is("a third", x.filledShare(), 1.0f / 3.0f);
        x.drop(0, 0, 2);
        Due.is("full", x.filledShare(), 1.0f);
    }

    private static void undo() {
        TinRoofScore x = new TinRoofScore();
        for (int i = 1; i <= 11; i++) {
            x.limit(i == 4 ? 9 : i > 4 ? i % 2 + 1 : i);
            Due.is("changes", x.account(11), Math.min(i, 8));
        }
        int[] want = {1, 2, 1, 2, 1, 2, 9, 3};
        for (int i = 0; i < 8; i++) {
            Due.is("undo", x.undo(), 7 - i);
            Due.is("limit back", x.account(7), want[i]);
        }
        Due.fails("undo of nothing", STATE, x::undo);
        Due.is("limit stays", x.account(7), 3);
        x.limit(8);
        Due.is("a change again", x.account(11), 1);
        Due.is("undo again", x.undo(), 0);
        Due.is("limit back", x.account(7), 3);
    }

    private static void undoEach() {
        TinRoofScore x = made("bar 8;leak 1 2;drop 0 5 1;drop 1 6 1");
        List<Object> before = Due.look(x);
        x.bar(4);
        x.key(0, 4);
        x.leak(1, 0);
        x.drop(0, 0, 3);
        x.lift();
        x.tune(1, 0);
        x.limit(1);
        Due.is("undoable", x.account(11), 8);
        for (int i = 0; i < 7; i++) {
            x.undo();
        }
        Due.is("all back", Due.look(x), before);
        x.rest(1);
        x.undo();
        Due.is("rest undone", Due.look(x), before);
        Due.fails("refused", UnsupportedOperationException.class, () -> x.limit(4));
        Due.runText(x, "limit 4");
        x.save();
        Due.is("refused, run and save are no changes", x.account(11), 1);
        x.undo();
        Due.is("text undone", x.account(0) + x.account(3) + x.account(8), 0);
    }

    private static void saveAndRestore() {
        TinRoofScore x = new TinRoofScore();
        Due.fails("restore of nothing", STATE, x::restore);
        Due.is("save of nothing", x.save(), 0);
        x.bar(8);
        x.key(2, 3);
        x.leak(2, 1);
        x.limit(2);
        x.drop(2, 4, 2);
        x.rest(2);
        List<Object> before = Due.look(x);
        Due.is("save", x.save(), 2);
        Due.is("save keeps undo", x.account(11), 6);
        x.lift();
        x.tune(0, 0);
        x.bar(3);
        x.key(2, 0);
        x.leak(2, 0);
        x.limit(11);
        Due.is("restore", x.restore(), 2);
        Due.is("forgets all", x.account(11), 0);
        before.set(11, 0);
        Due.is("as in the snapshot", Due.look(x), before);
        Due.fails("undo", STATE, x::undo);
        x.lift();
        x.lift();
        Due.is("changes after", x.undo(), 1);
        Due.is("the snapshot stays", x.restore(), 2);
        Due.is("as in the snapshot", Due.look(x), before);
        x.lift();
        Due.is("save in place of the earlier one", x.save(), 1);
        x.lift();
        Due.is("restore the later one", x.restore(), 1);
    }

    private static void otherSoundsBetween() {
        TinRoofScore x = made("bar 3;bar 4;key 1 2;leak 2 1", "drop 1 3 2;rest 2;drop 3 5 1");
        List<Object> before = Due.look(x);
        x.save();
        x.undo();
        x.undo();
        Due.runText(x, "bar 8;bar 2;key 3 6;leak 0 2");
        Due.runText(x, "rest 0;drop 0 9 3;rest 0");
        List<Object> other = Due.look(x);
        x.restore();
        before.set(11, 0);
        Due.is("restored over others", Due.look(x), before);
        Due.runText(x, "lift;lift;lift");
        Due.runText(x, "leak 0 2;rest 0;drop 0 9 3");
        x.undo();
        x.undo();
        Due.is("undone over others", Due.look(x), before);
        Due.is("others were others", other.equals(before), false);
    }
}
