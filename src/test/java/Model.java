import java.util.ArrayList;
import java.util.Arrays;
import java.util.Comparator;
import java.util.List;
import java.util.Optional;
import java.util.function.Function;
import java.util.function.Predicate;
import java.util.regex.Matcher;
import java.util.regex.Pattern;
import java.util.stream.IntStream;

/**
 * The document told a second time, in another way than the class under test: KINDS are classes, states are copied,
 * refusals and FAULTS are exceptions. It is made to be plain, not quick.
 */
final class Model {
    static final class Refused extends RuntimeException {
        private static final long serialVersionUID = 1L;
        final int number;

        Refused(int number) {
            super(null, null, false, false);
            this.number = number;
        }
    }

    static final class Fault extends RuntimeException {
        private static final long serialVersionUID = 1L;
        final int at;

        Fault(int at) {
            super(null, null, false, false);
            this.at = at;
        }
    }

    private static void refuse(int number, boolean so) {
        if (so) {
            throw new Refused(number);
        }
    }

    // ---- KINDS as classes

    static class Person implements Cloneable {
        int m;
        int k;
        int top;
        int tired;
        int runs;
        int waited;
        List<Integer> trace = new ArrayList<>();

        int down(int length) { return Math.max(1, length); }
        int pull(int steep) { return Math.max(1, steep + tired / 10); }
        int up(int steep) { return steep / 2 + tired / 10 + 1; }
        int effort() { return 8 + k; }
        int rides(int x) { trace.add(10); return x + m; }
        int pulls(int x) { trace.add(11); return rides(x) * 2; }
        int waits(int x) { trace.add(12); int p = pulls(x); return p ^ rides(x - k); }

        Person copy() {
            try {
                return (Person) clone();
            } catch (CloneNotSupportedException e) {
                throw new IllegalStateException(e);
            }
        }
    }

    static class Heavy extends Person {
        @Override int down(int length) { return Math.max(1, length - 1); }
        @Override int rides(int x) { trace.add(20); return super.rides(x) + k; }
    }

    static class Strong extends Person {
        @Override int pull(int steep) { return Math.max(1, steep + tired / 10 - 2); }
        @Override int effort() { return 5; }
        @Override int pulls(int x) { trace.add(30); return super.pulls(x) * 3; }
    }

    static final class Steerer extends Heavy {
        @Override int down(int length) { return Math.max(1, length - 2); }
        @Override int pulls(int x) { trace.add(40); return super.pulls(x + 1); }
    }

    static class Small extends Person {
        @Override int down(int length) { return length + 1; }
        @Override int pull(int steep) { return steep + tired / 10 + 2; }
        @Override int waits(int x) { trace.add(50); return -super.waits(x); }
        @Override int rides(int x) { trace.add(51); return super.rides(x) - m; }
    }

    static final class Tough extends Strong {
        @Override int pull(int steep) { return Math.max(1, steep + tired / 10 - 3); }
        @Override int waits(int x) { trace.add(60); return super.waits(x) ^ 5; }
    }

    static final class Baby extends Small {
        @Override int pull(int steep) { return 2 * (steep + tired / 10); }
        @Override int rides(int x) { trace.add(70); return super.rides(x) * 2; }
        @Override int pulls(int x) { trace.add(71); return super.pulls(x - k); }
    }

    private static final List<Class<? extends Person>> KINDS = List.of(
        Person.class, Heavy.class, Strong.class, Steerer.class, Small.class, Tough.class, Baby.class);

    private static Person person(int kind, int m, int k) {
        Person p;
        switch (kind) {
            case 0: p = new Person(); break;
            case 1: p = new Heavy(); break;
            case 2: p = new Strong(); break;
            case 3: p = new Steerer(); break;
            case 4: p = new Small(); break;
            case 5: p = new Tough(); break;
            default: p = new Baby(); break;
        }
        p.m = m;
        p.k = k;
        return p;
    }

    // ---- a state, and MOVES in it

    /** All MOVES of four RIDERS, by numbers. */
    private static final int[] TELLABLE = IntStream.rangeClosed(0, 700)
        .filter(move -> move == 700 || move < 700 && move % 100 / 10 < 4 && move % 10 < 4)
        .filter(move -> move / 100 % 2 == 0 || move / 100 > 3 ? move % 10 == 0 : move % 10 > move % 100 / 10)
        .toArray();

    static final class State {
        List<Person> people = new ArrayList<>();
        int foot = 1;
        int top;
        int minutes = 60;
        int pennies;
        int steep = 6;
        int length = 3;
        int seed = 1;

        State copy() {
            State s = new State();
            for (Person p : people) {
                s.people.add(p.copy());
            }
            s.foot = foot;
            s.top = top;
            s.minutes = minutes;
            s.pennies = pennies;
            s.steep = steep;
            s.length = length;
            s.seed = seed;
            return s;
        }

        /** Who moves by a MOVE; null: it is none. */
        List<Person> movers(int move) {
            if (move == 700) {
                return List.of();
            }
            if (move < 0 || move > 699) {
                return null;
            }
            int sort = move / 100;
            int one = move % 100 / 10;
            int two = move - 100 * sort - 10 * one;
            int n = people.size();
            if (sort == 1 || sort == 3) {
                return one < two && two < n ? List.of(people.get(one), people.get(two)) : null;
            }
            return two == 0 && one < n ? List.of(people.get(one)) : null;
        }

        int takes(int move) {
            List<Person> who = movers(move);
            switch (move / 100) {
                case 0: return who.get(0).down(length);
                case 1: return Math.max(1, who.stream().mapToInt(p -> p.down(length)).min().getAsInt() - 1);
                case 2: return who.get(0).pull(steep);
                case 3: return Math.max(1, who.stream().mapToInt(p -> p.pull(steep)).sum() / 2);
                case 4: return who.get(0).up(steep);
                case 5: return 2;
                case 6: return length + 1;
                default: return 5;
            }
        }

        boolean may(int move) {
            List<Person> who = movers(move);
            if (who == null || takes(move) > minutes) {
                return false;
            }
            int sort = move / 100;
            int from = List.of(0, 1, 6).contains(sort) ? 1 : 0;
            if (who.stream().anyMatch(p -> p.top != from)) {
                return false;
            }
            if (sort <= 1 && top == 0) {
                return false;
            }
            if (List.of(2, 3, 5).contains(sort) && foot == 0) {
                return false;
            }
            return sort != 5 || pennies > 0;
        }

        State after(int move) {
            State s = copy();
            int takes = takes(move);
            int sort = move / 100;
            List<Person> who = s.movers(move);
            for (Person p : s.people) {
                if (who.contains(p)) {
                    p.top = 1 - p.top;
                    int more = sort == 2 ? p.effort() : sort == 3 ? p.effort() / 2 : sort == 4 ? 3 : 0;
                    p.tired = Math.min(99, p.tired + more);
                    p.runs += sort <= 1 ? 1 : 0;
                } else {
                    p.tired = Math.max(0, p.tired - takes);
                    p.waited += sort == 7 ? 0 : takes;
                }
            }
            s.minutes -= takes;
            if (sort <= 1) {
                s.top--;
                s.foot++;
            } else if (sort == 2 || sort == 3 || sort == 5) {
                s.top++;
                s.foot--;
            }
            s.pennies -= sort == 5 ? 1 : 0;
            return s;
        }

        List<Integer> next() {
            return moves(m -> true);
        }

        List<Integer> moves(Predicate<Integer> of) {
            List<Integer> all = new ArrayList<>();
            for (int move : TELLABLE) {
                if (of.test(move) && may(move)) {
                    all.add(move);
                }
            }
            return all;
        }

        int runs() {
            return people.stream().mapToInt(p -> p.runs).sum();
        }

        int waited() {
            return people.stream().mapToInt(p -> p.waited).sum();
        }

        int apart() {
            return people.stream().mapToInt(p -> p.runs).max().getAsInt()
                - people.stream().mapToInt(p -> p.runs).min().getAsInt();
        }
    }

    State now = new State();
    State image;
    Object[] shelves = new Object[8];
    int[] refusals = new int[8];
    int fault = -1;
    List<Integer> trace = new ArrayList<>();

    // ---- SHELVES

    static final class Row {
        final int sort;
        final long[] elements;

        Row(int sort, int n) {
            this.sort = sort;
            elements = new long[n];
        }

        int asInt(int i) {
            return (int) elements[i];
        }
    }

    private boolean shelf(int s) {
        return 0 <= s && s <= 7;
    }

    private boolean exists(int rider) {
        return 0 <= rider && rider < now.people.size();
    }

    private Row rowIn(int s) {
        refuse(-1, !shelf(s));
        refuse(-2, shelves[s] instanceof Integer);
        refuse(-3, shelves[s] == null);
        return (Row) shelves[s];
    }

    int row(int s, int sort, int n) {
        refuse(-1, !shelf(s));
        refuse(-4, n < 0);
        refuse(-6, sort < 0 || sort > 3);
        refuse(-7, n > 160);
        shelves[s] = new Row(sort, n);
        return 1;
    }

    int set(int s, int i, long v) {
        Row r = rowIn(s);
        refuse(-5, i < 0 || i >= r.elements.length);
        long cut = r.sort == 0 ? (byte) v : r.sort == 1 ? (short) v : r.sort == 2 ? (int) v : v;
        r.elements[i] = cut;
        return 1;
    }

    int copy(int p, int q, int i, int j, int n) {
        refuse(-1, !shelf(p) || !shelf(q));
        refuse(-2, shelves[p] instanceof Integer || shelves[q] instanceof Integer);
        refuse(-2, shelves[p] != null && shelves[q] != null && ((Row) shelves[p]).sort != ((Row) shelves[q]).sort);
        refuse(-3, shelves[p] == null || shelves[q] == null);
        refuse(-4, n < 0);
        long[] from = ((Row) shelves[p]).elements;
        long[] to = ((Row) shelves[q]).elements;
        refuse(-5, i < 0 || j < 0 || (long) i + n > from.length || (long) j + n > to.length);
        long[] ahead = Arrays.copyOfRange(from, i, i + n);
        for (int e = 0; e < n; e++) {
            to[j + e] = ahead[e];
        }
        return 1;
    }

    long element(int s, int i) {
        boolean is = shelf(s) && shelves[s] instanceof Row && i >= 0 && i < ((Row) shelves[s]).elements.length;
        return is ? ((Row) shelves[s]).elements[i] : 0;
    }

    int show(int s, int rider) {
        refuse(-1, !shelf(s));
        refuse(-1, rider != -1 && !exists(rider));
        shelves[s] = rider == -1 ? null : (Integer) rider;
        return rider == -1 ? 0 : 1;
    }

    int holds(int s) {
        if (!shelf(s) || shelves[s] == null) {
            return -1;
        }
        return shelves[s] instanceof Row ? 100 + ((Row) shelves[s]).sort : (Integer) shelves[s];
    }

    int says(int s, int kind) {
        refuse(-1, !shelf(s) || kind < 0 || kind > 6);
        refuse(-2, shelves[s] instanceof Row);
        if (shelves[s] instanceof Integer) {
            refuse(-2, !KINDS.get(kind).isInstance(now.people.get((Integer) shelves[s])));
        }
        refuse(-3, shelves[s] == null);
        Person p = now.people.get((Integer) shelves[s]);
        List<Integer> what = List.of(p.runs, p.down(now.length), p.pull(now.steep), p.down(now.length),
            p.up(now.steep), p.pull(now.steep), p.up(now.steep));
        return what.get(kind);
    }

    // ---- RIDERS and the HILL

    int rider(int kind, int a) {
        refuse(-1, kind < 0 || kind > 6);
        refuse(-6, a < 0 || a > 9);
        refuse(-7, now.people.size() == 4);
        now.people.add(person(kind, now.people.size(), a));
        return now.people.size() - 1;
    }

    int riderOf(int rider, int what) {
        refuse(-5, !exists(rider) || what < 0 || what > 5);
        Person p = now.people.get(rider);
        return new int[] {KINDS.indexOf(p.getClass()), p.k, p.top, p.tired, p.runs, p.waited}[what];
    }

    int tell(int rider, int what, int v) {
        refuse(-1, !exists(rider));
        refuse(-6, what < 0 || what > 1 || v < 0 || v > (what == 0 ? 1 : 99));
        Person p = now.people.get(rider);
        int was = what == 0 ? p.top : p.tired;
        p.top = what == 0 ? v : p.top;
        p.tired = what == 1 ? v : p.tired;
        return was;
    }

    int sledges(int foot, int top) {
        refuse(-6, foot < 0 || foot > 3 || top < 0 || top > 3 || foot + top > 3);
        now.foot = foot;
        now.top = top;
        return foot + top;
    }

    int ask(int what, int v) {
        refuse(-6, what < 0 || what > 3);
        int[] least = {0, 0, 1, 1};
        int[] most = {999, 99, 9, 9};
        refuse(-6, v < least[what] || v > most[what]);
        int[] was = {now.minutes, now.pennies, now.steep, now.length};
        int[] is = was.clone();
        is[what] = v;
        now.minutes = is[0];
        now.pennies = is[1];
        now.steep = is[2];
        now.length = is[3];
        return was[what];
    }

    // ---- texts

    private static final String[] WORDS = {"rider", "top", "foot", "sledges", "minutes", "pennies", "hill", "move"};
    private static final Pattern NUMBER = Pattern.compile("\\d{1,3}");

    private final class Telling {
        final String text;
        State s = now.copy();
        int at;
        int items;

        Telling(String text) {
            this.text = text;
        }

        void sign(char c) {
            if (at == text.length() || text.charAt(at) != c) {
                throw new Fault(at);
            }
            at++;
        }

        int number(Predicate<Integer> stands) {
            sign(' ');
            Matcher m = NUMBER.matcher(text);
            m.region(at, text.length());
            if (!m.lookingAt()) {
                throw new Fault(at);
            }
            int n = Integer.parseInt(m.group());
            if (!stands.test(n)) {
                throw new Fault(at);
            }
            at = m.end();
            return n;
        }

        String word() {
            List<String> left = new ArrayList<>(List.of(WORDS));
            for (int i = 0; ; i++) {
                int letter = i;
                if (at + i == text.length()) {
                    throw new Fault(at + i);
                }
                left.removeIf(w -> w.charAt(letter) != text.charAt(at + letter));
                if (left.isEmpty()) {
                    throw new Fault(at + i);
                }
                if (left.size() == 1 && left.get(0).length() == i + 1) {
                    at += i + 1;
                    return left.get(0);
                }
            }
        }

        State all() {
            item();
            while (at < text.length()) {
                sign(';');
                item();
            }
            return s;
        }

        void item() {
            int first = at;
            String word = word();
            if (word.equals("rider")) {
                if (s.people.size() == 4) {
                    throw new Fault(first);
                }
                int kind = number(n -> n <= 6);
                int a = number(n -> n <= 9);
                s.people.add(person(kind, s.people.size(), a));
            } else if (word.equals("top") || word.equals("foot")) {
                s.people.get(number(n -> n < s.people.size())).top = word.equals("top") ? 1 : 0;
            } else if (word.equals("sledges")) {
                int foot = number(n -> n <= 3);
                s.top = number(n -> n + foot <= 3);
                s.foot = foot;
            } else if (word.equals("minutes")) {
                s.minutes = number(n -> true);
            } else if (word.equals("pennies")) {
                s.pennies = number(n -> n <= 99);
            } else if (word.equals("hill")) {
                s.steep = number(n -> n >= 1 && n <= 9);
                s.length = number(n -> n >= 1 && n <= 9);
            } else {
                s = s.after(number(n -> s.may(n)));
            }
            items++;
        }
    }

    int hill(int s) {
        Row r = rowIn(s);
        StringBuilder text = new StringBuilder();
        for (int i = 0; i < r.elements.length; i++) {
            int e = r.asInt(i);
            text.append(e < 0 || e > 127 ? '?' : (char) e);
        }
        Telling telling = new Telling(text.toString());
        try {
            now = telling.all();
        } catch (Fault f) {
            fault = f.at;
            throw new Refused(-6);
        }
        fault = -1;
        return telling.items;
    }

    // ---- MOVES

    int takes(int move) {
        refuse(-6, now.movers(move) == null);
        return now.takes(move);
    }

    int may(int move) {
        refuse(-6, now.movers(move) == null);
        return now.may(move) ? 1 : 0;
    }

    int next(int i) {
        List<Integer> all = now.next();
        refuse(-5, i < -1 || i >= all.size());
        return i == -1 ? all.size() : all.get(i);
    }

    private record Path(List<Integer> moves, int runs, int minutes) {
    }

    private static void paths(State s, Path ahead, int left, List<Path> all) {
        all.add(ahead);
        if (left == 0) {
            return;
        }
        for (int move : s.next()) {
            List<Integer> moves = new ArrayList<>(ahead.moves);
            moves.add(move);
            State behind = s.after(move);
            Path longer = new Path(moves, ahead.runs + behind.runs() - s.runs(),
                ahead.minutes + s.minutes - behind.minutes);
            paths(behind, longer, left - 1, all);
        }
    }

    private static int byNumbers(Path p, Path q) {
        for (int i = 0; i < Math.min(p.moves.size(), q.moves.size()); i++) {
            int c = Integer.compare(p.moves.get(i), q.moves.get(i));
            if (c != 0) {
                return c;
            }
        }
        return Integer.compare(p.moves.size(), q.moves.size());
    }

    int ahead(int d, int i) {
        refuse(-5, i < -1);
        refuse(-6, d < 1 || d > 3);
        List<Path> all = new ArrayList<>();
        paths(now, new Path(List.of(), 0, 0), d, all);
        Path best = all.stream().min(Comparator.comparingInt((Path p) -> -p.runs)
            .thenComparingInt(p -> p.minutes).thenComparing(Model::byNumbers)).get();
        refuse(-5, i >= best.moves.size());
        return i == -1 ? best.runs : best.moves.get(i);
    }

    // ---- RULES

    private record Played(State end, int moves) {
    }

    private static Played played(State from, int rule, int most, boolean lifts) {
        if (rule == 1) {
            return turns(from, most, lifts);
        }
        Function<State, Optional<Integer>> choice = rule == 0 ? Model::together : rule == 2 ? Model::rested : Model::strong;
        State s = from;
        int n = 0;
        while (n < most) {
            Optional<Integer> move = choice.apply(s);
            if (move.isEmpty()) {
                break;
            }
            s = s.after(move.get());
            n++;
        }
        return new Played(s, n);
    }

    private static Optional<Integer> together(State s) {
        return s.moves(m -> m == 101 || m == 301).stream().findFirst();
    }

    private static Optional<Integer> rested(State s) {
        Comparator<Integer> tired = Comparator.comparingInt(m -> s.movers(m).get(0).tired);
        return s.moves(m -> m / 100 == 0).stream().min(tired)
            .or(() -> s.moves(m -> m / 100 == 2).stream().min(tired));
    }

    private static Optional<Integer> strong(State s) {
        return s.moves(m -> m / 100 == 1).stream().findFirst()
            .or(() -> s.moves(m -> m / 100 == 2).stream().min(Comparator.comparingInt(s::takes)))
            .or(() -> s.moves(m -> m / 100 == 4).stream().findFirst())
            .or(() -> s.moves(m -> m / 100 == 0).stream().findFirst());
    }

    private static Played turns(State from, int most, boolean lifts) {
        State s = from;
        int n = 0;
        boolean moved = true;
        while (moved) {
            moved = false;
            for (int r = 0; r < from.people.size(); r++) {
                if (n < most && s.may(10 * r)) {
                    s = s.after(10 * r);
                    n++;
                    moved = true;
                }
                int up = lifts && s.may(500 + 10 * r) ? 500 + 10 * r : 200 + 10 * r;
                if (n < most && s.may(up)) {
                    s = s.after(up);
                    n++;
                    moved = true;
                }
            }
        }
        return new Played(s, n);
    }

    int by(int rule, int what) {
        refuse(-5, what < -1 || what > 5 || (what >= 0 && what < 4 && !exists(what)));
        refuse(-6, rule < 0 || rule > 3);
        Played p = played(now, rule, 300, false);
        if (what == -1) {
            return p.end.runs() - now.runs();
        }
        return what == 4 ? p.end.minutes : what == 5 ? p.moves : p.end.people.get(what).runs - now.people.get(what).runs;
    }

    int fair(int rule) {
        refuse(-5, now.people.isEmpty());
        refuse(-6, rule < 0 || rule > 3);
        return played(now, rule, 300, false).end.apart();
    }

    int best(int what) {
        refuse(-5, now.people.isEmpty() || what < 0 || what > 1);
        Comparator<Integer> by = Comparator.comparingInt(rule -> what == 0 ? -by(rule, -1) : fair(rule));
        return List.of(0, 1, 2, 3).stream().min(by).get();
    }

    int fits(int s) {
        Row r = rowIn(s);
        refuse(-5, r.elements.length < now.people.size());
        int bits = 0;
        for (int rule = 0; rule < 4; rule++) {
            boolean so = true;
            for (int i = 0; i < now.people.size(); i++) {
                so &= by(rule, i) == r.asInt(i);
            }
            bits += so ? 1 << rule : 0;
        }
        return bits;
    }

    int pennies(int n) {
        refuse(-5, now.people.isEmpty());
        refuse(-6, n < 0 || n > 9);
        List<Integer> runs = new ArrayList<>();
        for (int p = 0; p <= n; p++) {
            State s = now.copy();
            s.pennies = p;
            runs.add(played(s, 1, 300, true).end.runs());
        }
        return runs.indexOf(runs.stream().max(Comparator.naturalOrder()).get());
    }

    int who(int what) {
        refuse(-5, now.people.isEmpty() || what < 0 || what > 2);
        return now.people.stream()
            .min(Comparator.comparingInt(p -> what == 0 ? p.tired : what == 1 ? -p.runs : -p.waited)).get().m;
    }

    int road(int rider, int other, int n, int w, int what) {
        refuse(-1, !exists(rider) || !exists(other));
        refuse(-5, what < 0 || what > 1);
        refuse(-6, n < 1 || n > 500 || w < 1 || w > 20 || rider == other);
        int best = Integer.MAX_VALUE;
        int tie = -1;
        for (int k = n; k >= 0; k--) {
            int tied = k * w;
            int one = tied + (n - k) * (10 + now.people.get(rider).k);
            int there = k * (10 + now.people.get(other).k);
            int wait = tied > there ? tied - there : 0;
            int two = there + wait + (n - k) * w;
            int later = one > two ? one : two;
            if (later <= best) {
                best = later;
                tie = k;
            }
        }
        return what == 0 ? tie : best;
    }

    // ---- told afternoons

    private State told(int s, int n, boolean known) {
        Row r = rowIn(s);
        refuse(-4, n < 0);
        refuse(-5, n > r.elements.length || !known);
        refuse(-6, n > 60);
        State t = now;
        for (int i = 0; i < n; i++) {
            if (!t.may(r.asInt(i))) {
                throw new Fault(i);
            }
            t = t.after(r.asInt(i));
        }
        return t;
    }

    int judge(int s, int n) {
        try {
            told(s, n, true);
            return -1;
        } catch (Fault f) {
            return f.at;
        }
    }

    int behind(int s, int n, int what) {
        try {
            State t = told(s, n, what >= 0 && what <= 3);
            return new int[] {t.runs(), t.minutes, t.waited(), t.pennies}[what];
        } catch (Fault f) {
            throw new Refused(-6);
        }
    }

    int done(int s, int n) {
        try {
            now = told(s, n, true);
            return now.minutes;
        } catch (Fault f) {
            throw new Refused(-6);
        }
    }

    // ---- in truth

    int move(int move) {
        refuse(-6, !now.may(move));
        now = now.after(move);
        return now.minutes;
    }

    int goes(int rule, int n) {
        refuse(-6, rule < 0 || rule > 3 || n < 1 || n > 60);
        Played p = played(now, rule, n, false);
        now = p.end;
        return p.moves;
    }

    int winter(int n) {
        refuse(-6, n < 1 || n > 60);
        int before = now.runs();
        for (int i = 0; i < n; i++) {
            List<Integer> all = now.next();
            if (!all.isEmpty()) {
                int seed = (int) (now.seed * 1103515245L + 12345L);
                long upper = Integer.toUnsignedLong(seed) / 65536L;
                now = now.after(all.get((int) (upper % all.size())));
                now.seed = seed;
            }
        }
        return now.runs() - before;
    }

    int day(int v) {
        refuse(-6, v < 0 || v > 999);
        int runs = now.runs();
        List<Person> anew = new ArrayList<>();
        for (Person p : now.people) {
            anew.add(person(KINDS.indexOf(p.getClass()), p.m, p.k));
        }
        now.people = anew;
        now.foot = now.foot + now.top;
        now.top = 0;
        now.minutes = v;
        return runs;
    }

    int seed(int v) {
        int was = now.seed;
        now.seed = v;
        return was;
    }

    int act(int rider, int act, int x) {
        trace = new ArrayList<>();
        if (!exists(rider) || act < 0 || act > 2) {
            return 0;
        }
        Person p = now.people.get(rider).copy();
        p.trace = trace;
        return act == 0 ? p.rides(x) : act == 1 ? p.pulls(x) : p.waits(x);
    }

    int trace(int i) {
        return i < 0 || i >= Math.min(20, trace.size()) ? -1 : trace.get(i);
    }

    int image() {
        image = now.copy();
        return image.people.size();
    }

    int restore() {
        refuse(-6, image == null);
        now = image.copy();
        for (int s = 0; s < 8; s++) {
            if (shelves[s] instanceof Integer && !exists((Integer) shelves[s])) {
                shelves[s] = null;
            }
        }
        return now.people.size();
    }

    int status(int what) {
        int top = 0;
        for (Person p : now.people) {
            top += p.top << p.m;
        }
        int[] told = {now.people.size(), top, now.foot, now.top, now.minutes, now.pennies, now.steep, now.length,
            now.runs(), now.seed, trace.size(), refusals[1], refusals[2], refusals[3], refusals[4], refusals[5],
            refusals[6], refusals[7]};
        return what < 0 || what >= told.length ? -1 : told[what];
    }
}
