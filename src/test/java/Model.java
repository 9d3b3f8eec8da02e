import java.util.ArrayDeque;
import java.util.ArrayList;
import java.util.Deque;
import java.util.HashSet;
import java.util.List;
import java.util.Set;
import java.util.TreeMap;
import java.util.TreeSet;

/**
 * The document once more, written as plainly as its words and by other ways than the class: rows of levels are
 * searched, stories are walked, states are copied whole. RandomRunsTest holds the class against it.
 */
final class Model {
    static final int NONE = -1, UNKNOWN = -1000000001, OUTSIDE = -1000000002, NOT = -1000000003, FULL = -1000000004;

    record Piece(int day, int set) {
        boolean has(int w) {
            return (set >> w & 1) == 1;
        }
    }

    record Section1(int days, List<Piece> pieces, List<Integer> terms) { }

    record Flare(int word, int level, int first, int last) {
        boolean has(int d) {
            return d >= first && d <= last;
        }
    }

    record Entry(int word, int day, int level) { }

    record Image(Section1 kept, int seed) { }

    private Section1 now = new Section1(6, List.of(), List.of(2, 2, 2, 6));
    private final Deque<Section1> undoable = new ArrayDeque<>();
    private final List<Entry> book = new ArrayList<>();
    private final TreeMap<Integer, Image> images = new TreeMap<>();
    private String text = "";
    private int faultPlace = NONE;
    private int seed = 0;

    // ---- what follows from section 1

    private boolean isWord(int w) {
        return w >= 0 && w <= 7;
    }

    private boolean isDay(int d) {
        return d >= 0 && d < now.days;
    }

    private boolean isPiece(int k) {
        return k >= 0 && k < now.pieces.size();
    }

    private int levelsTerm() {
        return now.terms.get(0);
    }

    private int all(int d) {
        return (int) now.pieces.stream().filter(p -> p.day == d).count();
    }

    private int count(int w, int d) {
        return (int) now.pieces.stream().filter(p -> p.day == d && p.has(w)).count();
    }

    private int wanted(int w, int d, int l) {
        if (l > 0) {
            return wanted(w, d, l - 1) + now.terms.get(2);
        }
        if (now.pieces.isEmpty()) {
            return 0;
        }
        int having = (int) now.pieces.stream().filter(p -> p.has(w)).count();
        return all(d) * having / now.pieces.size();
    }

    private int unlikely(int w, int d, int l) {
        int apart = count(w, d) - wanted(w, d, l);
        return now.terms.get(1) * (apart < 0 ? -apart : apart);
    }

    /** All rows, the least levels of the first days first; a row counts only if it costs less than all ahead of it. */
    private final class Search {
        private final int[][] unlikely;
        private final int[] atLeastFrom;
        private final int[] row;
        private int[] best = null;
        private int bestCost = Integer.MAX_VALUE;

        Search(int w) {
            row = new int[now.days];
            unlikely = new int[now.days][levelsTerm() + 1];
            atLeastFrom = new int[now.days + 1];
            for (int d = now.days - 1; d >= 0; d--) {
                int least = Integer.MAX_VALUE;
                for (int l = 0; l <= levelsTerm(); l++) {
                    unlikely[d][l] = unlikely(w, d, l);
                    least = Math.min(least, unlikely[d][l]);
                }
                atLeastFrom[d] = atLeastFrom[d + 1] + least;
            }
            go(0, 0, 0);
        }

        private void go(int d, int before, int cost) {
            if (cost + atLeastFrom[d] >= bestCost) {
                return;
            }
            if (d == row.length) {
                best = row.clone();
                bestCost = cost;
                return;
            }
            for (int l = 0; l <= levelsTerm(); l++) {
                row[d] = l;
                int rise = l > before ? now.terms.get(3) * (l - before) : 0;
                go(d + 1, l, cost + unlikely[d][l] + rise);
            }
        }
    }

    private Section1 searchedFor = null;
    private final Search[] searches = new Search[8];

    private Search search(int w) {
        if (searchedFor != now) {
            java.util.Arrays.fill(searches, null);
            searchedFor = now;
        }
        if (searches[w] == null) {
            searches[w] = new Search(w);
        }
        return searches[w];
    }

    private int level(int w, int d) {
        return search(w).best[d];
    }

    private List<Flare> flares() {
        List<Flare> found = new ArrayList<>();
        for (int w = 0; w < 8; w++) {
            for (int l = 1; l <= levelsTerm(); l++) {
                for (int first = 0; first < now.days; first++) {
                    boolean begins = level(w, first) >= l && (first == 0 || level(w, first - 1) < l);
                    if (begins) {
                        int last = first;
                        while (last + 1 < now.days && level(w, last + 1) >= l) {
                            last++;
                        }
                        found.add(new Flare(w, l, first, last));
                    }
                }
            }
        }
        return found;
    }

    private boolean tied(Flare f, Flare g) {
        return f.word != g.word && now.pieces.stream()
                .anyMatch(p -> f.has(p.day) && g.has(p.day) && p.has(f.word) && p.has(g.word));
    }

    private List<Set<Flare>> stories() {
        List<Flare> atOne = flares().stream().filter(f -> f.level == 1).toList();
        List<Set<Flare>> heaps = new ArrayList<>();
        Set<Flare> seen = new HashSet<>();
        for (Flare start : atOne) {
            if (seen.contains(start)) {
                continue;
            }
            Set<Flare> heap = new HashSet<>();
            Deque<Flare> open = new ArrayDeque<>(List.of(start));
            while (!open.isEmpty()) {
                Flare f = open.pop();
                if (heap.add(f)) {
                    atOne.stream().filter(g -> tied(f, g)).forEach(open::push);
                }
            }
            seen.addAll(heap);
            heaps.add(heap);
        }
        return heaps;
    }

    private int weight(Flare f) {
        int sum = 0;
        for (int d = f.first; d <= f.last; d++) {
            sum += unlikely(f.word, d, f.level - 1) - unlikely(f.word, d, f.level);
        }
        return sum;
    }

    private int peak(Flare f) {
        for (int c = 40; c >= 0; c--) {
            for (int d = f.first; d <= f.last; d++) {
                if (count(f.word, d) == c) {
                    return d;
                }
            }
        }
        throw new IllegalStateException();
    }

    // ---- pieces told

    int feed(int letter) {
        if (letter < 0 || letter > 255) {
            return OUTSIDE;
        }
        if (text.length() == 60) {
            return FULL;
        }
        text += (char) letter;
        return text.length();
    }

    int pieces() {
        String read = text;
        text = "";
        List<Piece> pieces = new ArrayList<>(now.pieces);
        int p = 0;
        while (p < read.length()) {
            String rest = read.substring(p);
            java.util.regex.Matcher figures = java.util.regex.Pattern.compile("(?s)(1[01]|[0-9]).*").matcher(rest);
            if (!figures.matches()) {
                return faulty(1, p);
            }
            int d = Integer.parseInt(figures.group(1));
            if (d >= now.days) {
                return faulty(2, p);
            }
            if (pieces.size() == 40) {
                return faulty(3, p);
            }
            String whole = rest.replaceFirst("(?s)^((1[01]|[0-9])(:[a-h]*;?)?).*", "$1");
            p += whole.length();
            if (!whole.endsWith(";")) {
                return faulty(1, p);
            }
            int set = 0;
            for (char c = 'a'; c <= 'h'; c++) {
                set += whole.indexOf(c) >= 0 ? 1 << c - 'a' : 0;
            }
            pieces.add(new Piece(d, set));
        }
        faultPlace = NONE;
        deed(new Section1(now.days, pieces, now.terms));
        return pieces.size();
    }

    private int faulty(int number, int place) {
        faultPlace = place;
        return -10 - number;
    }

    int fault() {
        return faultPlace;
    }

    int told(int what) {
        return switch (what) {
            case 0 -> now.days;
            case 1 -> now.pieces.size();
            case 2 -> flares().size();
            case 3 -> stories().size();
            case 4, 5, 6, 7 -> now.terms.get(what - 4);
            case 8 -> text.length();
            case 9 -> book.size();
            case 10 -> wrong();
            case 11 -> undoable.size();
            case 12 -> seed;
            default -> OUTSIDE;
        };
    }

    private int wrong() {
        for (int i = 0; i < book.size(); i++) {
            Entry e = book.get(i);
            if (!isDay(e.day) || level(e.word, e.day) != e.level) {
                return i;
            }
        }
        return NONE;
    }

    int at(int k, int what) {
        if (!isPiece(k)) {
            return UNKNOWN;
        }
        if (what != 0 && what != 1) {
            return OUTSIDE;
        }
        return what == 0 ? now.pieces.get(k).day : now.pieces.get(k).set;
    }

    int day(int d, int what) {
        if (!isDay(d)) {
            return UNKNOWN;
        }
        if (what < 0 || what > 2) {
            return OUTSIDE;
        }
        if (what == 0) {
            return all(d);
        }
        int hot = 0;
        TreeSet<Integer> order = new TreeSet<>();
        for (int w = 0; w < 8; w++) {
            if (level(w, d) > 0) {
                hot += 1 << w;
                order.add(level(w, d) * 100000 + count(w, d) * 100 + 99 - w);
            }
        }
        return what == 1 ? hot : order.isEmpty() ? NONE : 99 - order.last() % 100;
    }

    int word(int w, int d, int what) {
        if (!isWord(w) || !isDay(d)) {
            return UNKNOWN;
        }
        if (what < 0 || what > 5) {
            return OUTSIDE;
        }
        if (what == 0) {
            return count(w, d);
        }
        if (what == 1) {
            return level(w, d);
        }
        return what - 2 > levelsTerm() ? NONE : wanted(w, d, what - 2);
    }

    int cost(int w) {
        return isWord(w) ? search(w).bestCost : UNKNOWN;
    }

    int steady(int w, int l) {
        if (!isWord(w)) {
            return UNKNOWN;
        }
        if (l < 0 || l > levelsTerm()) {
            return OUTSIDE;
        }
        int sum = now.terms.get(3) * l;
        for (int d = 0; d < now.days; d++) {
            sum += unlikely(w, d, l);
        }
        return sum;
    }

    int flare(int f, int what) {
        List<Flare> all = flares();
        if (f < 0 || f >= all.size()) {
            return UNKNOWN;
        }
        Flare it = all.get(f);
        return switch (what) {
            case 0 -> it.word;
            case 1 -> it.level;
            case 2 -> it.first;
            case 3 -> it.last;
            case 4 -> within(all, it);
            case 5 -> weight(it) + 1000;
            case 6 -> peak(it);
            case 7 -> count(it.word, peak(it)) - count(it.word, it.last);
            case 8 -> storyOf(it);
            default -> OUTSIDE;
        };
    }

    private int within(List<Flare> all, Flare it) {
        for (Flare g : all) {
            if (g.word == it.word && g.level == it.level - 1 && g.first <= it.first && g.last >= it.last) {
                return all.indexOf(g);
            }
        }
        return NONE;
    }

    private int storyOf(Flare it) {
        List<Set<Flare>> heaps = stories();
        for (int s = 0; s < heaps.size(); s++) {
            if (heaps.get(s).contains(it)) {
                return s;
            }
        }
        return NONE;
    }

    int story(int s, int what) {
        List<Set<Flare>> heaps = stories();
        if (s < 0 || s >= heaps.size()) {
            return UNKNOWN;
        }
        Set<Flare> heap = heaps.get(s);
        return switch (what) {
            case 0 -> heap.size();
            case 1 -> heap.stream().mapToInt(f -> 1 << f.word).distinct().sum();
            case 2 -> heap.stream().mapToInt(Flare::first).min().getAsInt();
            case 3 -> heap.stream().mapToInt(Flare::last).max().getAsInt();
            default -> OUTSIDE;
        };
    }

    int together(int w, int v) {
        if (!isWord(w) || !isWord(v)) {
            return UNKNOWN;
        }
        return (int) now.pieces.stream().filter(p -> p.has(w) && p.has(v)).count();
    }

    // ---- deeds

    private void deed(Section1 next) {
        undoable.addLast(now);
        if (undoable.size() > 16) {
            undoable.removeFirst();
        }
        now = next;
    }

    private void withPieces(List<Piece> pieces) {
        deed(new Section1(now.days, pieces, now.terms));
    }

    int piece(int d, int set) {
        if (!isDay(d)) {
            return UNKNOWN;
        }
        if (set < 0 || set > 255) {
            return OUTSIDE;
        }
        if (now.pieces.size() == 40) {
            return FULL;
        }
        List<Piece> pieces = new ArrayList<>(now.pieces);
        pieces.add(new Piece(d, set));
        withPieces(pieces);
        return pieces.size() - 1;
    }

    int take(int k) {
        if (!isPiece(k)) {
            return UNKNOWN;
        }
        List<Piece> pieces = new ArrayList<>(now.pieces);
        pieces.remove(k);
        withPieces(pieces);
        return pieces.size();
    }

    int move(int k, int d) {
        if (!isPiece(k) || !isDay(d)) {
            return UNKNOWN;
        }
        List<Piece> pieces = new ArrayList<>(now.pieces);
        Piece was = pieces.set(k, new Piece(d, pieces.get(k).set));
        withPieces(pieces);
        return was.day;
    }

    int days(int d) {
        if (d < 1 || d > 12) {
            return OUTSIDE;
        }
        if (now.pieces.stream().anyMatch(p -> p.day >= d)) {
            return NOT;
        }
        int was = now.days;
        deed(new Section1(d, now.pieces, now.terms));
        return was;
    }

    int term(int which, int v) {
        if (which < 0 || which > 3) {
            return OUTSIDE;
        }
        int least = which == 3 ? 0 : 1;
        int most = which == 0 ? 3 : which == 3 ? 99 : 9;
        if (v < least || v > most) {
            return OUTSIDE;
        }
        List<Integer> terms = new ArrayList<>(now.terms);
        int was = terms.set(which, v);
        deed(new Section1(now.days, now.pieces, terms));
        return was;
    }

    private int draw(int n) {
        java.math.BigInteger next = java.math.BigInteger.valueOf(seed)
                .multiply(java.math.BigInteger.valueOf(1103515245)).add(java.math.BigInteger.valueOf(12345))
                .mod(java.math.BigInteger.TWO.pow(31));
        seed = next.intValueExact();
        return seed / 65536 % n;
    }

    int drift(int n) {
        if (n < 1 || n > 12) {
            return OUTSIDE;
        }
        for (int i = 0; i < n; i++) {
            if (now.pieces.size() < 40) {
                int d = draw(now.days);
                piece(d, draw(256));
            }
        }
        return now.pieces.size();
    }

    int undo(int n) {
        if (n < 1 || n > 16) {
            return OUTSIDE;
        }
        if (n > undoable.size()) {
            return NOT;
        }
        for (int i = 0; i < n; i++) {
            now = undoable.removeLast();
        }
        return now.pieces.size();
    }

    // ---- the book

    int write(int w, int d, int l) {
        if (!isWord(w) || !isDay(d)) {
            return UNKNOWN;
        }
        if (book.size() == 20) {
            return FULL;
        }
        book.add(new Entry(w, d, l));
        return book.size();
    }

    int tear() {
        int had = book.size();
        book.clear();
        return had;
    }

    // ---- images

    int seed(int v) {
        if (v < 0) {
            return OUTSIDE;
        }
        int was = seed;
        seed = v;
        return was;
    }

    int keep(int i) {
        if (i != 0 && i != 1) {
            return UNKNOWN;
        }
        images.put(i, new Image(now, seed));
        undoable.clear();
        return 1;
    }

    int goBack(int i) {
        if (i != 0 && i != 1) {
            return UNKNOWN;
        }
        if (!images.containsKey(i)) {
            return NOT;
        }
        now = images.get(i).kept;
        seed = images.get(i).seed;
        undoable.clear();
        return 1;
    }
}
