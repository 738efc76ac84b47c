import java.util.ArrayDeque;
import java.util.ArrayList;
import java.util.Collections;
import java.util.Comparator;
import java.util.Deque;
import java.util.List;
import java.util.NoSuchElementException;
import java.util.regex.Matcher;
import java.util.regex.Pattern;

/** The document once more, told by lists of beats and a pattern of texts, to compare the class with. */
final class Model {
    private static final Pattern TEXT = text();

    private static final class Sound {
        final int tin;
        final int height;
        final int beats;

        Sound(int tin, int height, int beats) {
            this.tin = tin;
            this.height = height;
            this.beats = beats;
        }
    }

    private static final class State {
        List<Integer> bars = new ArrayList<>();
        List<Integer> keys = new ArrayList<>(Collections.nCopies(4, 0));
        List<Integer> leaks = new ArrayList<>(Collections.nCopies(4, 0));
        List<Sound> sounds = new ArrayList<>();
        int limit = 4;
        int set = 0;
        int taken = 0;

        State copy() {
            State other = new State();
            other.bars = new ArrayList<>(bars);
            other.keys = new ArrayList<>(keys);
            other.leaks = new ArrayList<>(leaks);
            other.sounds = new ArrayList<>(sounds);
            other.limit = limit;
            other.set = set;
            other.taken = taken;
            return other;
        }
    }

    /** A part: its sound, its bar, its beats and whether it is tied. */
    private record Part(int sound, int bar, int beats, boolean tied) {
    }

    private State now = new State();
    private State saved = null;
    private final Deque<State> past = new ArrayDeque<>();
    private String input = "";
    private String line = "";
    private int error = -1;
    private int reason = 0;
    private int detail = 0;

    private static Pattern text() {
        String order = "(?:bar [0-9]|key [0-9] [0-9]{1,2}|leak [0-9] [0-9]|drop [0-9] [0-9] [0-9]|rest [0-9]|lift"
            + "|limit [0-9]{1,2}|tune [0-9]{1,2} [0-9])";
        return Pattern.compile(order + "(?:;" + order + ")*");
    }

    // The beats of all bars, each with its bar, and the filled ones, each with its sound.

    private List<Integer> barBeats() {
        List<Integer> beats = new ArrayList<>();
        for (int bar = 0; bar < now.bars.size(); bar++) {
            beats.addAll(Collections.nCopies(now.bars.get(bar), bar));
        }
        return beats;
    }

    private List<Integer> soundBeats() {
        List<Integer> beats = new ArrayList<>();
        for (int sound = 0; sound < now.sounds.size(); sound++) {
            beats.addAll(Collections.nCopies(now.sounds.get(sound).beats, sound));
        }
        return beats;
    }

    private List<Part> parts() {
        List<Part> parts = new ArrayList<>();
        List<Integer> bars = barBeats();
        List<Integer> sounds = soundBeats();
        int from = 0;
        for (int i = 1; i <= sounds.size(); i++) {
            boolean isEnd = i == sounds.size() || !sounds.get(i).equals(sounds.get(from)) || !bars.get(i).equals(bars.get(from));
            if (isEnd) {
                boolean tied = from > 0 && sounds.get(from - 1).equals(sounds.get(from));
                parts.add(new Part(sounds.get(from), bars.get(from), i - from, tied));
                from = i;
            }
        }
        return parts;
    }

    private List<Part> partsIn(int bar) {
        List<Part> in = new ArrayList<>();
        for (Part part : parts()) {
            if (part.bar() == bar) {
                in.add(part);
            }
        }
        return in;
    }

    private List<Part> partsOf(int sound) {
        List<Part> of = new ArrayList<>();
        for (Part part : parts()) {
            if (part.sound() == sound) {
                of.add(part);
            }
        }
        return of;
    }

    private boolean isRest(int sound) {
        return now.sounds.get(sound).height < 0;
    }

    private int pitch(int sound) {
        Sound s = now.sounds.get(sound);
        return s.height < 0 ? -1 : (now.keys.get(s.tin) + s.height) % 12;
    }

    private List<Integer> drops() {
        List<Integer> drops = new ArrayList<>();
        for (int i = 0; i < now.sounds.size(); i++) {
            if (!isRest(i)) {
                drops.add(i);
            }
        }
        return drops;
    }

    private int free() {
        return barBeats().size() - soundBeats().size();
    }

    // Exceptions

    private static void place(boolean isThere) {
        if (!isThere) {
            throw new IndexOutOfBoundsException();
        }
    }

    private static void range(int number, int least, int most) {
        if (number < least || number > most) {
            throw new IllegalArgumentException();
        }
    }

    private static void element(boolean isThere) {
        if (!isThere) {
            throw new NoSuchElementException();
        }
    }

    private void refuse(boolean isSo, int why, int number) {
        if (isSo) {
            reason = why;
            detail = number;
            throw new UnsupportedOperationException();
        }
    }

    private void sound(int sound) {
        place(sound >= 0 && sound < now.sounds.size());
    }

    private void tin(int tin) {
        place(tin >= 0 && tin < 4);
    }

    private void barThere(int bar) {
        place(bar >= 0 && bar < now.bars.size());
    }

    // Changes

    Object order(String word, int a, int b, int c) {
        State before = now.copy();
        Object answer = carry(word, a, b, c);
        remember(before);
        return answer;
    }

    private void remember(State before) {
        past.push(before);
        if (past.size() > 8) {
            past.removeLast();
        }
    }

    private Object carry(String word, int a, int b, int c) {
        switch (word) {
            case "bar":
                range(a, 2, 8);
                refuse(now.bars.size() == 6, 1, 6);
                now.bars.add(a);
                return now.bars.size() - 1;
            case "key":
                tin(a);
                range(b, 0, 11);
                refuse(now.keys.get(a) == b, 2, b);
                return now.keys.set(a, b);
            case "leak":
                tin(a);
                range(b, 0, 3);
                refuse(now.leaks.get(a) == b, 2, b);
                return now.leaks.set(a, b);
            case "drop":
                tin(a);
                range(b, 0, 9);
                range(c, 1, 8);
                return addSound(new Sound(a, b, c));
            case "rest":
                tin(a);
                refuse(now.leaks.get(a) == 0, 4, now.keys.get(a));
                return addSound(new Sound(a, -1, now.leaks.get(a)));
            case "lift":
                refuse(now.sounds.isEmpty(), 5, now.bars.size());
                now.taken++;
                return now.sounds.remove(now.sounds.size() - 1).beats;
            case "limit":
                range(a, 1, 11);
                refuse(now.limit == a, 2, a);
                int limit = now.limit;
                now.limit = a;
                return limit;
            default:
                sound(a);
                range(b, 0, 9);
                Sound old = now.sounds.get(a);
                refuse(old.height < 0, 6, old.beats);
                refuse(old.height == b, 2, b);
                now.sounds.set(a, new Sound(old.tin, b, old.beats));
                return old.height;
        }
    }

    private int addSound(Sound sound) {
        refuse(now.sounds.size() == 16, 1, 16);
        refuse(sound.beats > free(), 3, free());
        now.sounds.add(sound);
        now.set++;
        return now.sounds.size() - 1;
    }

    // Looks

    Object tinOf(int tin, int what) {
        tin(tin);
        range(what, 0, 4);
        int drops = 0;
        int rests = 0;
        int beats = 0;
        for (Sound s : now.sounds) {
            if (s.tin == tin) {
                drops += s.height >= 0 ? 1 : 0;
                rests += s.height < 0 ? 1 : 0;
                beats += s.beats;
            }
        }
        return new int[] {now.keys.get(tin), now.leaks.get(tin), drops, rests, beats}[what];
    }

    Object soundOf(int sound, int what) {
        sound(sound);
        range(what, 0, 6);
        Sound s = now.sounds.get(sound);
        int begin = soundBeats().indexOf(sound);
        return new int[] {s.tin, s.height, s.beats, pitch(sound), partsOf(sound).size(), begin, barBeats().get(begin)}[what];
    }

    Object barOf(int bar, int what) {
        barThere(bar);
        range(what, 0, 4);
        int filled = 0;
        int begin = 0;
        for (Part part : partsIn(bar)) {
            filled += part.beats();
            begin += part.tied() ? 0 : 1;
        }
        return new int[] {now.bars.get(bar), filled, partsIn(bar).size(), begin, barBeats().indexOf(bar)}[what];
    }

    Object partOf(int bar, int place, int what) {
        barThere(bar);
        place(place >= 0 && place < partsIn(bar).size());
        range(what, 0, 2);
        Part part = partsIn(bar).get(place);
        return new int[] {part.sound(), part.beats(), part.tied() ? 1 : 0}[what];
    }

    Object at(int beat) {
        element(beat >= 0 && beat < soundBeats().size());
        return soundBeats().get(beat);
    }

    private List<Integer> faulty(int rule) {
        List<Integer> faults = new ArrayList<>();
        List<Integer> drops = drops();
        for (int i = 0; i < drops.size(); i++) {
            int p = pitch(drops.get(i));
            boolean isFar = i > 0 && Math.abs(p - pitch(drops.get(i - 1))) > now.limit;
            boolean isSame = i > 1 && p == pitch(drops.get(i - 1)) && p == pitch(drops.get(i - 2));
            if (rule == 1 && isFar || rule == 2 && isSame) {
                faults.add(drops.get(i));
            }
        }
        for (int bar = 0; rule == 3 && bar < now.bars.size(); bar++) {
            List<Part> in = partsIn(bar);
            if (!in.isEmpty() && isRest(in.get(0).sound())) {
                faults.add(bar);
            }
        }
        for (int i = 0; rule == 4 && i < now.sounds.size(); i++) {
            if (partsOf(i).size() > (isRest(i) ? 1 : 2)) {
                faults.add(i);
            }
        }
        return faults;
    }

    private int allFaults() {
        return faulty(1).size() + faulty(2).size() + faulty(3).size() + faulty(4).size();
    }

    Object faults(int rule) {
        range(rule, 1, 4);
        return faulty(rule).size();
    }

    Object firstFault(int rule) {
        range(rule, 1, 4);
        element(!faulty(rule).isEmpty());
        return faulty(rule).get(0);
    }

    Object isClean() {
        return allFaults() == 0;
    }

    private int faultsWith(int sound, int height) {
        State before = now;
        now = now.copy();
        Sound s = now.sounds.get(sound);
        now.sounds.set(sound, new Sound(s.tin, height, s.beats));
        int all = allFaults();
        now = before;
        return all;
    }

    Object wouldFault(int sound, int height) {
        sound(sound);
        range(height, 0, 9);
        element(!isRest(sound));
        return faultsWith(sound, height);
    }

    Object bestHeight(int sound) {
        sound(sound);
        element(!isRest(sound));
        int best = 9;
        for (int height = 8; height >= 0; height--) {
            best = faultsWith(sound, height) <= faultsWith(sound, best) ? height : best;
        }
        return best;
    }

    Object walk() {
        int walk = 0;
        for (int i = 1; i < drops().size(); i++) {
            walk += Math.abs(pitch(drops().get(i)) - pitch(drops().get(i - 1)));
        }
        return walk;
    }

    Object goes(boolean isUp) {
        int times = 0;
        for (int i = 1; i < drops().size(); i++) {
            times += Integer.signum(pitch(drops().get(i)) - pitch(drops().get(i - 1))) == (isUp ? 1 : -1) ? 1 : 0;
        }
        return times;
    }

    Object span() {
        int span = 0;
        for (int one : drops()) {
            for (int other : drops()) {
                span = Math.max(span, pitch(one) - pitch(other));
            }
        }
        return span;
    }

    Object withPitch(int pitch) {
        range(pitch, 0, 11);
        int count = 0;
        for (int drop : drops()) {
            count += pitch(drop) == pitch ? 1 : 0;
        }
        return count;
    }

    Object loudest(int place) {
        element(place >= 0 && place < 4);
        List<Integer> tins = new ArrayList<>(List.of(0, 1, 2, 3));
        Comparator<Integer> byBeats = Comparator.comparing(tin -> -(Integer) tinOf(tin, 4));
        tins.sort(byBeats.thenComparing(tin -> -now.keys.get(tin)));
        return tins.get(place);
    }

    Object highest(int place) {
        List<Integer> drops = drops();
        element(place >= 0 && place < drops.size());
        Comparator<Integer> byPitch = Comparator.comparing(drop -> -pitch(drop));
        drops.sort(byPitch.thenComparing(drop -> -now.sounds.get(drop).beats));
        return drops.get(place);
    }

    Object line(int bar) {
        barThere(bar);
        List<String> words = new ArrayList<>();
        int free = now.bars.get(bar);
        for (Part part : partsIn(bar)) {
            String letter = isRest(part.sound()) ? "." : "abcdefghijkl".substring(pitch(part.sound()), pitch(part.sound()) + 1);
            words.add((part.tied() ? "~" : "") + letter + part.beats());
            free -= part.beats();
        }
        words.add("_" + free);
        line = String.join(" ", words);
        return line.length();
    }

    Object tinLine(int tin) {
        tin(tin);
        line = now.keys.get(tin) + "/" + now.leaks.get(tin);
        return line.length();
    }

    Object character(int index) {
        place(index >= 0 && index < line.length());
        return line.charAt(index);
    }

    // Texts

    Object append(char c) {
        if (input.length() == 60) {
            throw new IllegalStateException();
        }
        input += c;
        return input.length();
    }

    private static int errorOf(String text) {
        if (TEXT.matcher(text).matches()) {
            return -1;
        }
        for (int i = 0; i < text.length(); i++) {
            Matcher matcher = TEXT.matcher(text.substring(0, i + 1));
            if (!matcher.matches() && !matcher.hitEnd()) {
                return i;
            }
        }
        return text.length();
    }

    Object run() {
        String text = input;
        input = "";
        error = errorOf(text);
        range(error, -1, -1);
        State before = now.copy();
        String[] orders = text.split(";");
        try {
            for (String order : orders) {
                String[] words = (order + " 0 0 0").split(" ");
                carry(words[0], Integer.parseInt(words[1]), Integer.parseInt(words[2]), Integer.parseInt(words[3]));
            }
        } catch (UnsupportedOperationException e) {
            now = before;
            throw e;
        } catch (RuntimeException e) {
            now = before;
            throw new IllegalArgumentException(e);
        }
        remember(before);
        return orders.length;
    }

    Object errorPosition() {
        return error;
    }

    Object refusal(boolean isDetail) {
        element(reason > 0);
        return isDetail ? detail : reason;
    }

    Object account(int what) {
        range(what, 0, 11);
        int drops = drops().size();
        int rests = now.sounds.size() - drops;
        return new int[] {now.bars.size(), barBeats().size(), soundBeats().size(), drops + rests, drops, rests,
            parts().size(), now.limit, now.set, now.taken, input.length(), past.size()}[what];
    }

    Object meanPitch() {
        double sum = 0;
        for (int drop : drops()) {
            sum += pitch(drop);
        }
        if (drops().isEmpty()) {
            throw new ArithmeticException();
        }
        return sum / drops().size();
    }

    Object filledShare() {
        if (now.bars.isEmpty()) {
            throw new ArithmeticException();
        }
        return (float) soundBeats().size() / (float) barBeats().size();
    }

    Object undo() {
        if (past.isEmpty()) {
            throw new IllegalStateException();
        }
        now = past.pop();
        return past.size();
    }

    Object save() {
        saved = now.copy();
        return now.sounds.size();
    }

    Object restore() {
        if (saved == null) {
            throw new IllegalStateException();
        }
        now = saved.copy();
        past.clear();
        return now.sounds.size();
    }
}
