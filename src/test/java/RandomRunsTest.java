import java.util.ArrayList;
import java.util.List;
import java.util.Random;

/** Runs of up to 512 calls, ordinary, at the edges and wrong ones, each answer held against the plain Model's. */
final class RandomRunsTest {
    private static final int RUNS = 600;
    private static final int CALLS = 512;

    /** A text of four pieces, with a sign too many, is fed and read: no step has more calls. */
    private static final int MOST_OF_A_STEP = 32;

    private static final int[] WILD = {Integer.MIN_VALUE, Integer.MIN_VALUE + 1, -1000000001, -256, -2, -1, 40, 41, 60,
        99, 100, 144, 255, 256, 1000, 65536, Integer.MAX_VALUE - 1, Integer.MAX_VALUE};

    private final Checks checks;
    private final Random random;
    private final FlaringWords x = new FlaringWords();
    private final Model model = new Model();
    private final List<String> calls = new ArrayList<>();

    private RandomRunsTest(Checks checks, long seed) {
        this.checks = checks;
        this.random = new Random(seed);
    }

    public static void main(String[] args) {
        Checks checks = new Checks("RandomRunsTest");
        for (int run = 0; run < RUNS && checks.wrong() == 0; run++) {
            new RandomRunsTest(checks, run).run(run);
        }
        checks.end();
    }

    private void run(int number) {
        int before = checks.wrong();
        settle();
        while (calls.size() + MOST_OF_A_STEP <= CALLS && checks.wrong() == before) {
            if (random.nextInt(100) < 45) {
                ask();
            } else if (random.nextInt(100) < 25) {
                tell();
            } else {
                act();
            }
        }
        if (checks.wrong() != before) {
            System.out.println("run " + number + ": " + String.join(" ", calls));
        }
    }

    /** At the first terms hardly a word flares: most runs begin with others. */
    private void settle() {
        if (random.nextInt(4) == 0) {
            return;
        }
        seed(random.nextInt() & Integer.MAX_VALUE);
        days(1 + random.nextInt(12));
        term(0, 1 + random.nextInt(3));
        term(1, 1 + random.nextInt(9));
        term(2, 1 + random.nextInt(3));
        term(3, random.nextInt(8));
        for (int i = random.nextInt(4); i > 0; i--) {
            drift(1 + random.nextInt(12));
        }
    }

    /** A number near a bound, mostly within it. */
    private int near(int bound) {
        int die = random.nextInt(40);
        if (die == 0) {
            return WILD[random.nextInt(WILD.length)];
        }
        return die == 1 ? bound : die == 2 ? -1 : random.nextInt(Math.max(1, bound));
    }

    private int nearDay() {
        return near(model.told(0));
    }

    private int nearPiece() {
        return near(model.told(1));
    }

    // ---- what is asked

    private void ask() {
        switch (random.nextInt(12)) {
            case 0 -> told(near(13));
            case 1 -> at(nearPiece(), near(2));
            case 2, 3 -> day(nearDay(), near(3));
            case 4 -> word(near(8), nearDay(), near(6));
            case 5 -> cost(near(8));
            case 6 -> steady(near(8), near(model.told(4) + 1));
            case 7, 8 -> flare(near(model.told(2)), near(9));
            case 9 -> story(near(model.told(3)), near(4));
            case 10 -> together(near(8), near(8));
            default -> fault();
        }
    }

    private void tell() {
        StringBuilder text = new StringBuilder();
        for (int i = random.nextInt(5); i > 0; i--) {
            text.append(random.nextInt(10) == 0 ? random.nextInt(14) : random.nextInt(model.told(0))).append(':');
            for (int n = random.nextInt(4); n > 0; n--) {
                text.append((char) ('a' + random.nextInt(8)));
            }
            text.append(';');
        }
        if (random.nextInt(3) == 0) {
            spoil(text);
        }
        for (int i = 0; i < text.length(); i++) {
            feed(text.charAt(i));
        }
        if (random.nextInt(10) > 0) {
            pieces();
            fault();
        }
    }

    private void spoil(StringBuilder text) {
        String signs = "0123456789:;abcdefghi`A /\u0000\u00ff";
        int place = random.nextInt(text.length() + 1);
        char sign = signs.charAt(random.nextInt(signs.length()));
        switch (random.nextInt(3)) {
            case 0 -> text.insert(place, sign);
            case 1 -> text.setLength(place);
            default -> text.replace(place, Math.min(text.length(), place + 1), String.valueOf(sign));
        }
    }

    private void act() {
        switch (random.nextInt(22)) {
            case 0, 1, 2, 3, 4 -> piece(nearDay(), near(256));
            case 5, 6, 7 -> take(nearPiece());
            case 8, 9 -> move(nearPiece(), nearDay());
            case 10 -> days(near(13));
            case 11 -> term(near(4), near(10));
            case 12 -> term(3, near(100));
            case 13, 14 -> drift(near(13));
            case 15, 16 -> undo(near(random.nextInt(3) == 0 ? 17 : 4));
            case 17 -> write();
            case 18 -> seed(random.nextInt(8) == 0 ? near(1) : random.nextInt());
            case 19 -> keep(near(2));
            case 20 -> goBack(near(2));
            default -> feed(near(256));
        }
        if (random.nextInt(400) == 0) {
            tear();
        }
    }

    /** Mostly true, so that it is not always the first entry that is wrong. */
    private void write() {
        int w = near(8);
        int d = nearDay();
        int now = model.word(w, d, 1);
        write(w, d, random.nextInt(12) == 0 ? near(4) : now);
        told(10);
    }

    // ---- one call of each, on both

    private void due(String call, int want, int got) {
        calls.add(call);
        checks.due(call, want, got);
    }

    private void feed(int letter) {
        due("feed(" + letter + ")", model.feed(letter), x.feed(letter));
    }

    private void pieces() {
        due("pieces()", model.pieces(), x.pieces());
    }

    private void fault() {
        due("fault()", model.fault(), x.fault());
    }

    private void told(int what) {
        due("told(" + what + ")", model.told(what), x.told(what));
    }

    private void at(int k, int what) {
        due("at(" + k + ", " + what + ")", model.at(k, what), x.at(k, what));
    }

    private void day(int d, int what) {
        due("day(" + d + ", " + what + ")", model.day(d, what), x.day(d, what));
    }

    private void word(int w, int d, int what) {
        due("word(" + w + ", " + d + ", " + what + ")", model.word(w, d, what), x.word(w, d, what));
    }

    private void cost(int w) {
        due("cost(" + w + ")", model.cost(w), x.cost(w));
    }

    private void steady(int w, int l) {
        due("steady(" + w + ", " + l + ")", model.steady(w, l), x.steady(w, l));
    }

    private void flare(int f, int what) {
        due("flare(" + f + ", " + what + ")", model.flare(f, what), x.flare(f, what));
    }

    private void story(int s, int what) {
        due("story(" + s + ", " + what + ")", model.story(s, what), x.story(s, what));
    }

    private void together(int w, int v) {
        due("together(" + w + ", " + v + ")", model.together(w, v), x.together(w, v));
    }

    private void piece(int d, int set) {
        due("piece(" + d + ", " + set + ")", model.piece(d, set), x.piece(d, set));
    }

    private void take(int k) {
        due("take(" + k + ")", model.take(k), x.take(k));
    }

    private void move(int k, int d) {
        due("move(" + k + ", " + d + ")", model.move(k, d), x.move(k, d));
    }

    private void days(int d) {
        due("days(" + d + ")", model.days(d), x.days(d));
    }

    private void term(int which, int v) {
        due("term(" + which + ", " + v + ")", model.term(which, v), x.term(which, v));
    }

    private void drift(int n) {
        due("drift(" + n + ")", model.drift(n), x.drift(n));
    }

    private void undo(int n) {
        due("undo(" + n + ")", model.undo(n), x.undo(n));
    }

    private void write(int w, int d, int l) {
        due("write(" + w + ", " + d + ", " + l + ")", model.write(w, d, l), x.write(w, d, l));
    }

    private void tear() {
        due("tear()", model.tear(), x.tear());
    }

    private void seed(int v) {
        due("seed(" + v + ")", model.seed(v), x.seed(v));
    }

    private void keep(int i) {
        due("keep(" + i + ")", model.keep(i), x.keep(i));
    }

    private void goBack(int i) {
        due("goBack(" + i + ")", model.goBack(i), x.goBack(i));
    }
}
