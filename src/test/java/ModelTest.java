import java.util.ArrayList;
import java.util.List;
import java.util.Random;
import java.util.TreeSet;

/**
 * Wild runs of calls, each answered by the class and by a model that is written from the document
 * alone, with no thought for speed: sets instead of bits, every plan by trying all, images by copies.
 */
public final class ModelTest {
    private static final int BEYOND = -100001;
    private static final int MISSING = -100002;
    private static final int SIZE = -100003;
    private static final int KIND = -100004;
    private static final int FULL = -100005;
    private static final int NONE = -100006;
    private static final int TAKEN = -100007;
    private static final int APART = -100008;
    private static final int BARRED = -100009;

    static final class Float implements Cloneable {
        int kind, cell, planks, hold, water, goods;
        boolean sunk;
        Float twin() { try { return (Float) clone(); } catch (CloneNotSupportedException e) { throw new Error(e); } }
    }

    static final class Person implements Cloneable {
        int on, born, one, two, wed = -1, thirst;
        boolean lost;
        Person twin() { try { return (Person) clone(); } catch (CloneNotSupportedException e) { throw new Error(e); } }
    }

    static final class Rope implements Cloneable {
        int a, sideA, b, sideB, told, age, wet;
        boolean gone;
        int strength() { return Math.max(0, told - age / 3 - wet * 2); }
        Rope twin() { try { return (Rope) clone(); } catch (CloneNotSupportedException e) { throw new Error(e); } }
    }

    static final class Event {
        final int what, number, day;
        final TreeSet<Integer> known;
        Event(int what, int number, int day, TreeSet<Integer> known) {
            this.what = what; this.number = number; this.day = day; this.known = new TreeSet<>(known);
        }
    }

    static final class State {
        int[] sx = new int[36], sy = new int[36];
        List<Float> floats = new ArrayList<>();
        List<Person> persons = new ArrayList<>();
        List<Rope> ropes = new ArrayList<>();
        List<Event> all = new ArrayList<>();
        String[] texts = new String[5];
        List<Integer> laws = new ArrayList<>();
        List<Event> lawEvents = new ArrayList<>();
        int day, drunk, sea;

        State twin() {
            State t = new State();
            t.sx = sx.clone(); t.sy = sy.clone();
            for (Float f : floats) t.floats.add(f.twin());
            for (Person p : persons) t.persons.add(p.twin());
            for (Rope r : ropes) t.ropes.add(r.twin());
            for (Event e : all) {
                Event n = new Event(e.what, e.number, e.day, e.known);
                t.all.add(n);
                if (e.what == 6) t.lawEvents.add(n);
            }
            t.texts = texts.clone();
            t.laws.addAll(laws);
            t.day = day; t.drunk = drunk; t.sea = sea;
            return t;
        }
    }

    static final class Fault extends RuntimeException {
        private static final long serialVersionUID = 1L;
        final int at;
        Fault(int at) { this.at = at; }
    }

    /** Works a text out while it reads it: a text of which nothing is wanted but its faults has names of 0. */
    static final class Reader {
        final String text;
        final java.util.function.ToIntFunction<String> names;
        final List<String> tokens = new ArrayList<>();
        final List<Integer> starts = new ArrayList<>();
        int at = 0;

        Reader(String text, java.util.function.ToIntFunction<String> names) {
            this.text = text;
            this.names = names;
            int i = 0;
            while (i < text.length()) {
                char c = text.charAt(i);
                if (c == ' ') { i++; continue; }
                int j = i + 1;
                if (c >= 'a' && c <= 'z') while (j < text.length() && text.charAt(j) >= 'a' && text.charAt(j) <= 'z') j++;
                if (c >= '0' && c <= '9') while (j < text.length() && text.charAt(j) >= '0' && text.charAt(j) <= '9') j++;
                tokens.add(text.substring(i, j));
                starts.add(i);
                i = j;
            }
            starts.add(text.length());
        }

        String peek() { return at < tokens.size() ? tokens.get(at) : ""; }
        Fault fault() { return new Fault(starts.get(at)); }
        void eat(String s) { if (!peek().equals(s)) throw fault(); at++; }

        int[] whole() {
            int[] come = new int[3];
            String[] keys = {"tie", "cut", "speak"};
            for (int k = 0; k < 3; k++) { eat(keys[k]); come[k] = e(0); eat(";"); }
            if (at < tokens.size()) throw fault();
            return come;
        }

        int e(int in) {
            int v = and(in);
            while (peek().equals("or")) { at++; int w = and(in); v = v != 0 | w != 0 ? 1 : 0; }
            return v;
        }

        int and(int in) {
            int v = not(in);
            while (peek().equals("and")) { at++; int w = not(in); v = v != 0 & w != 0 ? 1 : 0; }
            return v;
        }

        int not(int in) {
            if (peek().equals("not")) {
                if (in == 4) throw fault();
                at++;
                return not(in + 1) == 0 ? 1 : 0;
            }
            int v = sum(in);
            if (peek().equals("<")) { at++; return v < sum(in) ? 1 : 0; }
            if (peek().equals("=")) { at++; return v == sum(in) ? 1 : 0; }
            return v;
        }

        int sum(int in) {
            int v = one(in);
            while (peek().equals("+") || peek().equals("-")) {
                boolean plus = peek().equals("+");
                at++;
                int w = one(in);
                v = plus ? v + w : v - w;
            }
            return v;
        }

        int one(int in) {
            String t = peek();
            if (t.matches("[0-9]{1,4}")) { at++; return Integer.parseInt(t); }
            if (t.matches("waves|load|strength|age|kin|heads|water|day|born")) { at++; return names.applyAsInt(t); }
            if (t.equals("(") && in < 4) { at++; int v = e(in + 1); eat(")"); return v; }
            throw fault();
        }
    }

    static final class Model {
        State s = new State();
        State kept = null;
        String tape = "";
        int[][] sheets = new int[4][];
        int[] bits = new int[4];
        int findings = 0;

        int n(int answer) { if (answer < -99999) findings++; return answer; }
        boolean f(int i) { return i >= 0 && i < s.floats.size(); }
        boolean p(int i) { return i >= 0 && i < s.persons.size(); }
        boolean r(int i) { return i >= 0 && i < s.ropes.size(); }
        static boolean in(int v, int a, int b) { return v >= a && v <= b; }
        static int bitsOf(Iterable<Integer> set) { int b = 0; for (int i : set) b |= 1 << i; return b; }

        TreeSet<Integer> live() {
            TreeSet<Integer> l = new TreeSet<>();
            for (int i = 0; i < s.ropes.size(); i++) if (!s.ropes.get(i).gone) l.add(i);
            return l;
        }

        TreeSet<Integer> part(int f, TreeSet<Integer> ropes) {
            TreeSet<Integer> seen = new TreeSet<>();
            walk(f, ropes, seen);
            return seen;
        }

        void walk(int f, TreeSet<Integer> ropes, TreeSet<Integer> seen) {
            if (!seen.add(f)) return;
            for (int i : ropes) {
                if (s.ropes.get(i).a == f) walk(s.ropes.get(i).b, ropes, seen);
                if (s.ropes.get(i).b == f) walk(s.ropes.get(i).a, ropes, seen);
            }
        }

        TreeSet<Integer> part(int f) { return part(f, live()); }

        int partCount() {
            TreeSet<Integer> leasts = new TreeSet<>();
            for (int i = 0; i < s.floats.size(); i++) if (!s.floats.get(i).sunk) leasts.add(part(i).first());
            return leasts.size();
        }

        int area(int f) {
            switch (s.floats.get(f).kind) {
                case 0: case 4: return 1;
                case 1: case 3: return 2;
                case 2: return 3;
                default: return 0;
            }
        }

        int weight(int f) {
            Float x = s.floats.get(f);
            int w = 5 + 2 * area(f) + x.water + x.goods;
            if (x.kind == 2) w += 5;
            for (Person q : s.persons) if (!q.lost && q.on == f) w += 2;
            return w;
        }

        int weight(TreeSet<Integer> fs) { int w = 0; for (int f : fs) w += weight(f); return w; }

        int hang(int r, TreeSet<Integer> ropes) {
            TreeSet<Integer> without = new TreeSet<>(ropes);
            without.remove(r);
            Rope x = s.ropes.get(r);
            TreeSet<Integer> pa = part(x.a, without), pb = part(x.b, without);
            if (pa.contains(x.b)) return Math.min(weight(x.a), weight(x.b)) / 2;
            return Math.min(weight(pa), weight(pb));
        }

        int load(int r, TreeSet<Integer> ropes, int w) { return w * hang(r, ropes) / 8; }

        List<Integer> parting(TreeSet<Integer> ropes, int w) {
            TreeSet<Integer> left = new TreeSet<>(ropes);
            List<Integer> gone = new ArrayList<>();
            while (true) {
                int best = -1, by = 0;
                for (int r : left) {
                    int above = load(r, left, w) - s.ropes.get(r).strength();
                    if (above > by) { best = r; by = above; }
                }
                if (best < 0) return gone;
                gone.add(best);
                left.remove(best);
            }
        }

        boolean kin(int a, int b) {
            if (a == b) return false;
            Person x = s.persons.get(a), y = s.persons.get(b);
            if (x.wed == b) return true;
            if (x.one == b || x.two == b || y.one == a || y.two == a) return true;
            for (int q = 0; q < s.persons.size(); q++) {
                if ((x.one == q || x.two == q) && (y.one == q || y.two == q)) return true;
            }
            return false;
        }

        void led(int what, int number, TreeSet<Integer> known) {
            Event e = new Event(what, number, s.day, known);
            s.all.add(e);
            if (what == 6) s.lawEvents.add(e);
        }

        List<Event> shown() { return s.all.subList(Math.max(0, s.all.size() - 40), s.all.size()); }

        int stream(int c, int x, int y) {
            if (!in(c, 0, 35) || !in(x, -1, 1) || !in(y, -1, 1)) return n(BEYOND);
            s.sx[c] = x; s.sy[c] = y;
            return 1;
        }

        int raft(int k, int c, int pl, int h) {
            if (!in(k, 0, 5) || !in(c, 0, 35) || !in(pl, 1, 99) || !in(h, 0, 99)) return n(BEYOND);
            if (s.floats.size() == 10) return n(FULL);
            Float x = new Float();
            x.kind = k; x.cell = c; x.planks = pl; x.hold = h;
            s.floats.add(x);
            return s.floats.size() - 1;
        }

        int as(int a, int k) {
            if (!f(a) || !in(k, 0, 5)) return n(BEYOND);
            int is = s.floats.get(a).kind;
            boolean fits = k == 0 || is == k || k == 1 && (is == 2 || is == 3 || is == 5);
            return fits ? a : n(KIND);
        }

        int raftIs(int a, int what) {
            if (!f(a) || !in(what, 0, 9)) return n(BEYOND);
            Float x = s.floats.get(a);
            int[] is = {x.kind, x.cell, x.planks, x.hold, x.water, x.goods, weight(a), area(a), part(a).first(), x.sunk ? 1 : 0};
            return is[what];
        }

        int load(int a, int k, boolean goods) {
            if (!f(a) || !in(k, 0, 99)) return n(BEYOND);
            Float x = s.floats.get(a);
            if (x.sunk) return n(NONE);
            if (x.water + x.goods + k > x.hold) return n(FULL);
            return goods ? (x.goods += k) : (x.water += k);
        }

        int trade(int a, int b, int k, boolean goods) {
            if (!f(a) || !f(b) || !in(k, 0, 99)) return n(BEYOND);
            Float x = s.floats.get(a), y = s.floats.get(b);
            if (x.sunk || y.sunk) return n(NONE);
            if (a == b) return n(SIZE);
            if (!part(a).contains(b)) return n(APART);
            if ((goods ? x.goods : x.water) < k) return n(MISSING);
            if (y.water + y.goods + k > y.hold) return n(FULL);
            if (goods) { x.goods -= k; return y.goods += k; }
            x.water -= k;
            return y.water += k;
        }

        int person(int a, int born, int one, int two) {
            if (!f(a) || !in(born, -9999, 0) || one != -1 && !p(one) || two != -1 && !p(two) || one == two && one != -1) return n(BEYOND);
            if (s.floats.get(a).sunk) return n(NONE);
            if (s.persons.size() == 14) return n(FULL);
            Person x = new Person();
            x.on = a; x.born = born; x.one = one; x.two = two;
            s.persons.add(x);
            return s.persons.size() - 1;
        }

        int wed(int a, int b) {
            if (!p(a) || !p(b)) return n(BEYOND);
            if (a == b) return n(SIZE);
            Person x = s.persons.get(a), y = s.persons.get(b);
            if (x.lost || y.lost) return n(NONE);
            if (x.wed != -1 || y.wed != -1) return n(TAKEN);
            x.wed = b; y.wed = a;
            return 1;
        }

        int move(int q, int a) {
            if (!p(q) || !f(a)) return n(BEYOND);
            Person x = s.persons.get(q);
            if (x.lost || s.floats.get(a).sunk) return n(NONE);
            if (!part(a).contains(x.on)) return n(APART);
            int was = x.on;
            x.on = a;
            return was;
        }

        int personIs(int q, int what) {
            if (!p(q) || !in(what, 0, 5)) return n(BEYOND);
            Person x = s.persons.get(q);
            int k = 0;
            for (int i = 0; i < s.persons.size(); i++) if (kin(q, i)) k |= 1 << i;
            int[] is = {x.on, x.born, x.wed, x.lost ? 1 : 0, x.thirst, k};
            return is[what];
        }

        int atSide(int a, int side) {
            int k = 0;
            for (int i : live()) {
                Rope x = s.ropes.get(i);
                if (x.a == a && x.sideA == side) k++;
                if (x.b == a && x.sideB == side) k++;
            }
            return k;
        }

        int tie(int a, int sa, int b, int sb, int st) {
            if (!f(a) || !f(b) || !in(sa, 0, 3) || !in(sb, 0, 3) || !in(st, 1, 99)) return n(BEYOND);
            if (a == b) return n(SIZE);
            Float x = s.floats.get(a), y = s.floats.get(b);
            if (x.sunk || y.sunk) return n(NONE);
            if (x.cell != y.cell) return n(APART);
            if (atSide(a, sa) >= (x.kind == 2 ? 2 : 1) || atSide(b, sb) >= (y.kind == 2 ? 2 : 1)) return n(TAKEN);
            if (live().size() == 12) return n(FULL);
            TreeSet<Integer> both = part(a);
            both.addAll(part(b));
            for (Event e : s.all) {
                boolean one = false;
                for (int i : both) one |= e.known.contains(i);
                if (one) e.known.addAll(both);
            }
            int number = 0;
            while (number < s.ropes.size() && !s.ropes.get(number).gone) number++;
            Rope z = new Rope();
            z.a = a; z.sideA = sa; z.b = b; z.sideB = sb; z.told = st;
            if (number < s.ropes.size()) s.ropes.set(number, z); else s.ropes.add(z);
            led(1, number, both);
            return number;
        }

        int ruling(TreeSet<Integer> part) {
            int law = -1;
            for (int l = 0; l < s.laws.size(); l++) {
                for (int i : part) if (s.lawEvents.get(l).known.contains(i)) law = l;
            }
            return law;
        }

        int heads(TreeSet<Integer> part) { int k = 0; for (Person q : s.persons) if (!q.lost && part.contains(q.on)) k++; return k; }
        int water(TreeSet<Integer> part) { int k = 0; for (int i : part) k += s.floats.get(i).water; return k; }

        int pairs(int a, int b) {
            int k = 0;
            for (int i = 0; i < s.persons.size(); i++) for (int j = 0; j < s.persons.size(); j++) {
                Person x = s.persons.get(i), y = s.persons.get(j);
                if (!x.lost && !y.lost && x.on == a && y.on == b && kin(i, j)) k++;
            }
            return k;
        }

        int comesTo(int law, int clause, TreeSet<Integer> part, int kin, int born, int[] rope) {
            return new Reader(s.texts[s.laws.get(law)], name -> {
                switch (name) {
                    case "waves": return rope[0];
                    case "load": return rope[1];
                    case "strength": return rope[2];
                    case "age": return rope[3];
                    case "kin": return kin;
                    case "heads": return heads(part);
                    case "water": return water(part);
                    case "day": return s.day;
                    default: return born;
                }
            }).whole()[clause];
        }

        int ofRope(int law, int i, int w) {
            Rope x = s.ropes.get(i);
            return comesTo(law, 1, part(x.a), pairs(x.a, x.b), 0, new int[] {w, load(i, live(), w), x.strength(), x.age});
        }

        int cut(int i) {
            if (!r(i)) return n(BEYOND);
            Rope x = s.ropes.get(i);
            if (x.gone) return n(NONE);
            TreeSet<Integer> part = part(x.a);
            int law = ruling(part);
            if (law >= 0 && ofRope(law, i, 0) == 0) return n(BARRED);
            led(2, i, part);
            x.gone = true;
            return partCount();
        }

        int rope(int i, int what) {
            if (!r(i) || !in(what, 0, 6)) return n(BEYOND);
            Rope x = s.ropes.get(i);
            if (x.gone) return n(NONE);
            int[] is = {x.a, x.b, x.strength(), x.age, hang(i, live()), x.sideA, x.sideB};
            return is[what];
        }

        int bears(int i, int w) {
            if (!r(i) || !in(w, 0, 20)) return n(BEYOND);
            return s.ropes.get(i).gone ? n(NONE) : load(i, live(), w);
        }

        int part1(int a) {
            if (!f(a)) return n(BEYOND);
            return s.floats.get(a).sunk ? n(NONE) : bitsOf(part(a));
        }

        int worst(int w, int i) {
            if (!in(w, 0, 20) || i < -1) return n(BEYOND);
            List<Integer> gone = parting(live(), w);
            if (i == -1) return gone.size();
            return i < gone.size() ? gone.get(i) : n(NONE);
        }

        int led(int cell, int x, int y) {
            int cx = cell % 6 + x, cy = cell / 6 + y;
            return cx < 0 || cx > 5 || cy < 0 || cy > 5 ? cell : cy * 6 + cx;
        }

        int drift(int cell) { return led(cell, s.sx[cell], s.sy[cell]); }

        void lose(int q, TreeSet<Integer> part) { s.persons.get(q).lost = true; led(5, q, part); }

        int aDay(int w, int rain) {
            List<Integer> gone = parting(live(), w);
            for (int i : gone) {
                TreeSet<Integer> known = part(s.ropes.get(i).a);
                led(3, i, known);
                s.ropes.get(i).gone = true;
            }
            for (int i = 0; i < s.floats.size(); i++) {
                Float x = s.floats.get(i);
                for (int k = 0; !x.sunk && k < rain * area(i); k++) if (x.water + x.goods < x.hold) x.water++;
            }
            for (Float x : s.floats) if (x.kind == 3 && !x.sunk && x.water > 0) { x.water--; s.drunk++; }
            for (int q = 0; q < s.persons.size(); q++) {
                Person x = s.persons.get(q);
                if (x.lost) continue;
                TreeSet<Integer> part = part(x.on);
                int most = x.on;
                if (s.floats.get(most).water == 0) for (int i : part) if (s.floats.get(i).water > s.floats.get(most).water) most = i;
                if (s.floats.get(most).water > 0) { s.floats.get(most).water--; s.drunk++; x.thirst = 0; }
                else if (++x.thirst == 3) lose(q, part);
            }
            for (int i : live()) { s.ropes.get(i).age++; if (rain > 0) s.ropes.get(i).wet++; }
            for (int i = 0; i < s.floats.size(); i++) {
                Float x = s.floats.get(i);
                if (x.sunk || x.kind != 5 && s.day % 10 != 0 || --x.planks > 0) continue;
                TreeSet<Integer> part = part(i), others = new TreeSet<>(part);
                others.remove(i);
                led(4, i, part);
                for (int q = 0; q < s.persons.size(); q++) {
                    Person y = s.persons.get(q);
                    if (y.lost || y.on != i) continue;
                    if (others.isEmpty()) lose(q, part); else y.on = others.first();
                }
                s.sea += x.water + x.goods;
                x.water = 0; x.goods = 0; x.sunk = true;
                for (Rope y : s.ropes) if (y.a == i || y.b == i) y.gone = true;
            }
            TreeSet<Integer> went = new TreeSet<>();
            for (int i = 0; i < s.floats.size(); i++) {
                if (s.floats.get(i).sunk || went.contains(i)) continue;
                int to = drift(s.floats.get(i).cell);
                for (int j : part(i)) { s.floats.get(j).cell = to; went.add(j); }
            }
            s.day++;
            return gone.size();
        }

        int day(int w, int rain) { return in(w, 0, 20) && in(rain, 0, 9) ? aDay(w, rain) : n(BEYOND); }

        int days(int k, int sheet) {
            if (!in(k, 1, 30) || !in(sheet, 0, 3)) return n(BEYOND);
            if (bits[sheet] == 0) return n(MISSING);
            int w = 0, rain = 0, parted = 0;
            for (int d = 0; d < k; d++) {
                if (2 * d + 1 < sheets[sheet].length && in(sheets[sheet][2 * d], 0, 20) && in(sheets[sheet][2 * d + 1], 0, 9)) {
                    w = sheets[sheet][2 * d];
                    rain = sheets[sheet][2 * d + 1];
                }
                parted += aDay(w, rain);
            }
            return parted;
        }

        int lasts(int a) {
            if (!f(a)) return n(BEYOND);
            if (s.floats.get(a).sunk) return n(NONE);
            TreeSet<Integer> part = part(a);
            int users = heads(part);
            for (int i : part) if (s.floats.get(i).kind == 3) users++;
            return users == 0 ? 9999 : water(part) / users;
        }

        int feed(int k, long v) {
            if (!in(k, 1, 8)) return n(BEYOND);
            if (tape.length() + k > 160) return n(FULL);
            for (int i = 0; i < k; i++) { tape += (char) (v & 255); v >>>= 8; }
            return tape.length();
        }

        int text(int t) {
            if (!in(t, 0, 4)) return n(BEYOND);
            String text = tape;
            tape = "";
            try {
                new Reader(text, name -> 0).whole();
                s.texts[t] = text;
                return -1;
            } catch (Fault fault) {
                return fault.at;
            }
        }

        int force(int t, int a) {
            if (!in(t, 0, 4) || !f(a)) return n(BEYOND);
            if (s.texts[t] == null || s.floats.get(a).sunk) return n(NONE);
            if (s.laws.size() == 12) return n(FULL);
            s.laws.add(t);
            led(6, s.laws.size() - 1, part(a));
            return s.laws.size() - 1;
        }

        int law(int a) {
            if (!f(a)) return n(BEYOND);
            if (s.floats.get(a).sunk || ruling(part(a)) < 0) return n(NONE);
            return ruling(part(a));
        }

        int may(int i, int w) {
            if (!r(i) || !in(w, 0, 20)) return n(BEYOND);
            if (s.ropes.get(i).gone) return n(NONE);
            int law = ruling(part(s.ropes.get(i).a));
            return n(law < 0 ? NONE : ofRope(law, i, w));
        }

        int must(int a, int b) {
            if (!f(a) || !f(b)) return n(BEYOND);
            if (a == b) return n(SIZE);
            if (s.floats.get(a).sunk || s.floats.get(b).sunk || ruling(part(a)) < 0) return n(NONE);
            TreeSet<Integer> both = part(a);
            both.addAll(part(b));
            return n(comesTo(ruling(part(a)), 0, both, pairs(a, b), 0, new int[4]));
        }

        int speaks(int a) {
            if (!f(a)) return n(BEYOND);
            if (s.floats.get(a).sunk || ruling(part(a)) < 0) return n(NONE);
            TreeSet<Integer> part = part(a);
            int best = NONE;
            long most = Long.MIN_VALUE;
            for (int q = 0; q < s.persons.size(); q++) {
                if (s.persons.get(q).lost || !part.contains(s.persons.get(q).on)) continue;
                int kin = 0;
                for (int i = 0; i < s.persons.size(); i++) {
                    if (kin(q, i) && !s.persons.get(i).lost && part.contains(s.persons.get(i).on)) kin++;
                }
                int v = comesTo(ruling(part), 2, part, kin, s.persons.get(q).born, new int[4]);
                if (v > most) { most = v; best = q; }
            }
            return n(best);
        }

        int events(int a) {
            if (a == -1) return shown().size();
            if (!f(a)) return n(BEYOND);
            int k = 0;
            for (Event e : shown()) if (e.known.contains(a)) k++;
            return k;
        }

        int event(int i, int what) {
            if (!in(i, 0, shown().size() - 1) || !in(what, 0, 3)) return n(BEYOND);
            Event e = shown().get(i);
            int[] is = {e.what, e.number, e.day, bitsOf(e.known)};
            return is[what];
        }

        TreeSet<Integer> setOf(int set) {
            TreeSet<Integer> t = new TreeSet<>();
            for (int i = 0; i < 32; i++) if ((set >>> i & 1) == 1) t.add(i);
            return t;
        }

        int lash(int a, int w) {
            if (!f(a) || !in(w, 0, 20)) return n(BEYOND);
            if (s.floats.get(a).sunk) return n(NONE);
            TreeSet<Integer> part = part(a), ropes = new TreeSet<>();
            for (int i : live()) if (part.contains(s.ropes.get(i).a)) ropes.add(i);
            int all = bitsOf(ropes);
            for (int k = 0; k <= ropes.size(); k++) {
                for (int set = 0; set <= all; set++) {
                    if ((set & ~all) != 0 || Integer.bitCount(set) != k) continue;
                    TreeSet<Integer> t = setOf(set);
                    if (part(a, t).equals(part) && parting(t, w).isEmpty()) return set;
                }
            }
            return n(NONE);
        }

        int storm(int w, boolean lost) {
            if (!in(w, 0, 20)) return n(BEYOND);
            int all = bitsOf(live()), best = 0, fewest = 99;
            for (int set = 0; set <= all; set++) {
                if ((set & ~all) != 0) continue;
                int k = Integer.bitCount(set) + parting(setOf(all & ~set), w).size();
                if (k < fewest) { fewest = k; best = set; }
            }
            return lost ? fewest : best;
        }

        int proves(int set, int w, int sheet) {
            if (!live().containsAll(setOf(set)) || !in(w, 0, 20) || !in(sheet, 0, 3)) return n(BEYOND);
            if (bits[sheet] == 0) return n(MISSING);
            TreeSet<Integer> t = setOf(set);
            if (sheets[sheet].length != t.size()) return t.size();
            int place = 0;
            for (int i : t) {
                int due = load(i, t, w);
                if (sheets[sheet][place] != due || due > s.ropes.get(i).strength()) return place;
                place++;
            }
            return -1;
        }

        boolean sail(int a) { for (int i : part(a)) if (s.floats.get(i).kind == 4) return true; return false; }

        List<Integer> beside(int cell) {
            List<Integer> l = new ArrayList<>();
            for (int c = 0; c < 36; c++) if (Math.abs(c % 6 - cell % 6) + Math.abs(c / 6 - cell / 6) == 1) l.add(c);
            return l;
        }

        int patch(int a, int k) {
            if (!f(a) || !in(k, 0, 30)) return n(BEYOND);
            if (s.floats.get(a).sunk) return n(NONE);
            TreeSet<Integer> at = new TreeSet<>();
            at.add(s.floats.get(a).cell);
            for (int d = 0; d < k; d++) {
                TreeSet<Integer> next = new TreeSet<>();
                for (int c : at) {
                    next.add(drift(c));
                    for (int b : beside(c)) next.add(led(c, s.sx[b], s.sy[b]));
                    if (sail(a)) next.add(c);
                }
                at = next;
            }
            return at.size();
        }

        int tow(int a, int b) {
            if (!f(a) || !f(b)) return n(BEYOND);
            if (s.floats.get(a).sunk || s.floats.get(b).sunk) return n(NONE);
            TreeSet<Integer> at = new TreeSet<>();
            at.add(s.floats.get(a).cell);
            int goal = s.floats.get(b).cell;
            for (int d = 0; d <= 30; d++) {
                if (at.contains(goal)) return d;
                TreeSet<Integer> next = new TreeSet<>();
                for (int c : at) {
                    next.add(drift(c));
                    if (sail(a)) next.addAll(beside(drift(c)));
                }
                at = next;
                goal = drift(goal);
            }
            return n(NONE);
        }

        int sheet(int t, int b, int k) {
            if (!in(t, 0, 3) || b != 0 && b != 8 && b != 16 && b != 32) return n(BEYOND);
            if (k < 0) return n(SIZE);
            if (k > 20) return n(BEYOND);
            bits[t] = b;
            sheets[t] = b == 0 ? null : new int[k];
            return b == 0 ? 0 : k;
        }

        int put(int t, int i, int v) {
            if (!in(t, 0, 3)) return n(BEYOND);
            if (bits[t] == 0) return n(MISSING);
            if (!in(i, 0, sheets[t].length - 1)) return n(BEYOND);
            sheets[t][i] = (int) (v & (1L << bits[t]) - 1);
            return 0;
        }

        int copy(int t, int from, int u, int to, int k) {
            if (!in(t, 0, 3) || !in(u, 0, 3)) return n(BEYOND);
            if (bits[t] == 0 || bits[u] == 0) return n(MISSING);
            if (bits[t] != bits[u]) return n(KIND);
            if (from < 0 || to < 0 || k < 0 || (long) from + k > sheets[t].length || (long) to + k > sheets[u].length) return n(BEYOND);
            int[] was = sheets[t].clone();
            for (int i = 0; i < k; i++) sheets[u][to + i] = was[from + i];
            return k;
        }

        int image() { kept = s.twin(); return s.day; }

        int restore() {
            if (kept == null) return n(NONE);
            s = kept.twin();
            return s.day;
        }

        int count(int what) {
            int a = 0;
            switch (what) {
                case 0: for (Float x : s.floats) if (!x.sunk) a++; return a;
                case 1: for (Person x : s.persons) if (!x.lost) a++; return a;
                case 2: return live().size();
                case 3: return s.day;
                case 4: for (Float x : s.floats) a += x.water + x.goods; return a;
                case 5: return s.drunk;
                case 6: return s.sea;
                case 7: return findings;
                default: return n(BEYOND);
            }
        }
    }

    // ---- the runs

    private static final String[] BITS = {"tie ", "cut ", "speak ", ";", "or ", "and ", "not ", "not ", "(", ")", "+", "-", "<", "=",
        "waves ", "load ", "strength ", "age ", "kin ", "heads ", "water ", "day ", "born ", "7", "0", "12", "9999", " ", "x", "12345", "*"};

    private static Random random;
    private static RaftTown x;
    private static Model m;
    private static StringBuilder story;
    private static int calls = 0;

    /** Mostly within, now and then beyond, seldom far off. */
    private static int pick(int least, int most) {
        int dice = random.nextInt(60);
        if (dice == 0) return least - 1;
        if (dice == 1) return most + 1;
        if (dice == 2) return random.nextInt();
        return most < least ? least : least + random.nextInt(most - least + 1);
    }

    private static int aFloat() { return pick(0, m.s.floats.size() - 1); }
    private static int aPerson() { return pick(0, m.s.persons.size() - 1); }
    private static int aRope() { return pick(0, m.s.ropes.size() - 1); }
    private static int waves() { return random.nextBoolean() ? pick(0, 20) : pick(0, 6); }

    private static void due(String call, int got, int want) {
        calls++;
        story.append(call).append(" -> ").append(got).append('\n');
        if (got != want) {
            System.out.println(story);
            System.out.println("the last answered " + got + ", the model answers " + want);
            System.exit(1);
        }
    }

    private static String anE(int in) {
        int dice = random.nextInt(in > 3 ? 3 : 10);
        if (dice == 0) return String.valueOf(random.nextInt(30));
        if (dice <= 2) return BITS[14 + random.nextInt(9)].trim();
        if (dice == 3) return "not " + anE(in + 1);
        if (dice == 4) return "(" + anE(in + 1) + ")";
        String[] signs = {"+", "-", "<", "=", " or ", " and "};
        return anE(in + 2) + signs[random.nextInt(6)] + anE(in + 2);
    }

    private static String aText() {
        StringBuilder b = new StringBuilder();
        if (random.nextInt(3) == 0) {
            int k = random.nextInt(12);
            for (int i = 0; i < k; i++) b.append(BITS[random.nextInt(BITS.length)]);
        } else {
            b.append("tie ").append(anE(0)).append(";cut ").append(anE(0)).append(";speak ").append(anE(0)).append(';');
            if (random.nextInt(4) == 0) {
                int at = random.nextInt(b.length());
                if (random.nextBoolean()) b.deleteCharAt(at); else b.insert(at, BITS[random.nextInt(BITS.length)]);
            }
        }
        return b.length() > 159 ? b.substring(0, 159) : b.toString();
    }

    private static void tell() {
        String t = aText();
        for (int i = 0; i < t.length(); i += 8) {
            int k = Math.min(8, t.length() - i);
            long v = 0;
            for (int j = 0; j < k; j++) v |= (long) t.charAt(i + j) << 8 * j;
            due("feed " + k + " " + t.substring(i, i + k), x.feed(k, v), m.feed(k, v));
        }
        int a = pick(0, 4);
        due("text " + a, x.text(a), m.text(a));
    }

    private static void proof() {
        int live = Model.bitsOf(m.live());
        int set = live & random.nextInt(4096);
        int w = pick(0, 12), s = random.nextInt(4), k = Integer.bitCount(set);
        due("sheet", x.sheet(s, 16, k), m.sheet(s, 16, k));
        int i = 0;
        for (int r : m.setOf(set)) {
            int v = m.load(r, m.setOf(set), w) + (random.nextInt(25) == 0 ? 1 : 0);
            due("put " + i + " " + v, x.put(s, i, v), m.put(s, i, v));
            i++;
        }
        due("proves " + set + " " + w + " " + s, x.proves(set, w, s), m.proves(set, w, s));
    }

    private static void build() {
        int a, b, c, d, e;
        boolean g = random.nextInt(3) == 0;
        switch (random.nextInt(12)) {
            case 0: a = pick(0, 35); b = pick(-1, 1); c = pick(-1, 1);
                due("stream " + a + " " + b + " " + c, x.stream(a, b, c), m.stream(a, b, c)); break;
            case 1: case 2: a = pick(0, 5); b = random.nextInt(4) == 0 ? pick(0, 35) : 14; c = random.nextInt(4) == 0 ? pick(1, 3) : pick(1, 99); d = pick(0, 40);
                due("raft " + a + " " + b + " " + c + " " + d, x.raft(a, b, c, d), m.raft(a, b, c, d)); break;
            case 3: a = aFloat(); b = pick(0, 12);
                due("load " + a + " " + b + " " + g, x.load(a, b, g), m.load(a, b, g)); break;
            case 4: a = aFloat(); b = aFloat(); c = pick(0, 5);
                due("trade " + a + " " + b + " " + c + " " + g, x.trade(a, b, c, g), m.trade(a, b, c, g)); break;
            case 5: a = aFloat(); b = pick(-99, 0); c = pick(-1, m.s.persons.size() - 1); d = pick(-1, m.s.persons.size() - 1);
                due("person " + a + " " + b + " " + c + " " + d, x.person(a, b, c, d), m.person(a, b, c, d)); break;
            case 6: a = aPerson(); b = aPerson();
                due("wed " + a + " " + b, x.wed(a, b), m.wed(a, b)); break;
            case 7: a = aPerson(); b = aFloat();
                due("move " + a + " " + b, x.move(a, b), m.move(a, b)); break;
            case 8: a = aRope();
                due("cut " + a, x.cut(a), m.cut(a)); break;
            default: a = aFloat(); b = pick(0, 3); c = aFloat(); d = pick(0, 3); e = random.nextBoolean() ? pick(1, 99) : pick(5, 25);
                due("tie " + a + " " + b + " " + c + " " + d + " " + e, x.tie(a, b, c, d, e), m.tie(a, b, c, d, e)); break;
        }
    }

    private static void goOn() {
        int a, b, c, d, e;
        switch (random.nextInt(14)) {
            case 0: case 1: case 2: a = random.nextInt(3) == 0 ? pick(0, 20) : pick(0, 4); b = random.nextBoolean() ? 0 : pick(0, 9);
                due("day " + a + " " + b, x.day(a, b), m.day(a, b)); break;
            case 3: a = random.nextInt(4) == 0 ? pick(1, 30) : pick(1, 3); b = pick(0, 3);
                due("days " + a + " " + b, x.days(a, b), m.days(a, b)); break;
            case 4: tell(); break;
            case 5: a = pick(0, 4); b = aFloat();
                due("force " + a + " " + b, x.force(a, b), m.force(a, b)); break;
            case 6: a = pick(0, 3); b = new int[] {0, 8, 16, 32, 8, 16, 32, 7}[random.nextInt(8)]; c = pick(0, 20);
                due("sheet " + a + " " + b + " " + c, x.sheet(a, b, c), m.sheet(a, b, c)); break;
            case 7: case 8: case 9: a = pick(0, 3); b = pick(0, 8); c = random.nextInt(3) == 0 ? random.nextInt() : pick(0, 9);
                due("put " + a + " " + b + " " + c, x.put(a, b, c), m.put(a, b, c)); break;
            case 10: a = pick(0, 3); b = pick(0, 4); c = pick(0, 3); d = pick(0, 4); e = pick(0, 6);
                due("copy " + a + " " + b + " " + c + " " + d + " " + e, x.copy(a, b, c, d, e), m.copy(a, b, c, d, e)); break;
            case 11: if (random.nextInt(3) == 0) due("image", x.image(), m.image()); break;
            case 12: if (random.nextInt(4) == 0) due("restore", x.restore(), m.restore()); break;
            default: proof(); break;
        }
    }

    private static void ask() {
        int a, b, c;
        switch (random.nextInt(24)) {
            case 0: a = aFloat(); b = pick(0, 5); due("as " + a + " " + b, x.as(a, b), m.as(a, b)); break;
            case 1: case 2: a = aFloat(); b = pick(0, 9); due("raftIs " + a + " " + b, x.raftIs(a, b), m.raftIs(a, b)); break;
            case 3: a = aPerson(); b = pick(0, 5); due("personIs " + a + " " + b, x.personIs(a, b), m.personIs(a, b)); break;
            case 4: a = aRope(); b = pick(0, 6); due("rope " + a + " " + b, x.rope(a, b), m.rope(a, b)); break;
            case 5: a = aRope(); b = waves(); due("bears " + a + " " + b, x.bears(a, b), m.bears(a, b)); break;
            case 6: due("parts", x.parts(), m.partCount()); break;
            case 7: a = aFloat(); due("part " + a, x.part(a), m.part1(a)); break;
            case 8: a = waves(); b = pick(-1, 5); due("worst " + a + " " + b, x.worst(a, b), m.worst(a, b)); break;
            case 9: a = aFloat(); due("lasts " + a, x.lasts(a), m.lasts(a)); break;
            case 10: a = aFloat(); due("law " + a, x.law(a), m.law(a)); break;
            case 11: case 12: a = aRope(); b = waves(); due("may " + a + " " + b, x.may(a, b), m.may(a, b)); break;
            case 13: a = aFloat(); b = aFloat(); due("must " + a + " " + b, x.must(a, b), m.must(a, b)); break;
            case 14: a = aFloat(); due("speaks " + a, x.speaks(a), m.speaks(a)); break;
            case 15: a = pick(-1, m.s.floats.size() - 1); due("events " + a, x.events(a), m.events(a)); break;
            case 16: case 17: a = pick(0, m.shown().size() - 1); b = pick(0, 3); due("event " + a + " " + b, x.event(a, b), m.event(a, b)); break;
            case 18: a = aFloat(); b = waves(); due("lash " + a + " " + b, x.lash(a, b), m.lash(a, b)); break;
            case 19: a = waves(); due("storm " + a, x.storm(a, false), m.storm(a, false)); due("storm lost " + a, x.storm(a, true), m.storm(a, true)); break;
            case 20: a = random.nextInt(); b = waves(); c = pick(0, 3); due("proves " + a + " " + b + " " + c, x.proves(a, b, c), m.proves(a, b, c)); break;
            case 21: a = aFloat(); b = pick(0, 30); due("patch " + a + " " + b, x.patch(a, b), m.patch(a, b)); break;
            case 22: a = aFloat(); b = aFloat(); due("tow " + a + " " + b, x.tow(a, b), m.tow(a, b)); break;
            default: a = pick(0, 7); due("count " + a, x.count(a), m.count(a)); break;
        }
    }

    /** A town that stands for a while: many floats in one cell, many ropes, and a law. */
    private static void settle() {
        int floats = 3 + random.nextInt(8);
        for (int i = 0; i < floats; i++) {
            int kind = random.nextInt(6), planks = 5 + random.nextInt(90), hold = random.nextInt(60);
            due("raft " + kind, x.raft(kind, 14, planks, hold), m.raft(kind, 14, planks, hold));
            int n = random.nextInt(20);
            due("load " + i, x.load(i, n, false), m.load(i, n, false));
            int person = m.s.persons.size() - 1;
            due("person " + i, x.person(i, -i, person, -1), m.person(i, -i, person, -1));
        }
        int strength = 10 + random.nextInt(80);
        for (int i = 0; i < 60; i++) {
            int a = random.nextInt(floats), b = random.nextInt(floats), k = random.nextInt(4), l = random.nextInt(4);
            int st = Math.max(1, strength - random.nextInt(10));
            due("tie " + a + " " + k + " " + b + " " + l + " " + st, x.tie(a, k, b, l, st), m.tie(a, k, b, l, st));
        }
        for (int i = 0; i < 6; i++) {
            tell();
            int t = random.nextInt(5), a = random.nextInt(floats);
            due("force " + t + " " + a, x.force(t, a), m.force(t, a));
        }
        for (int i = 0; i < 60; i++) {
            ask();
        }
    }

    /** All that can be asked, one by one: so an act that answered a finding has changed nothing. */
    private static void askAll() {
        for (int i = 0; i < 10; i++) for (int k = 0; k < 10; k++) due("raftIs " + i + " " + k, x.raftIs(i, k), m.raftIs(i, k));
        for (int i = 0; i < 14; i++) for (int k = 0; k < 6; k++) due("personIs " + i + " " + k, x.personIs(i, k), m.personIs(i, k));
        for (int i = 0; i < 12; i++) for (int k = 0; k < 7; k++) due("rope " + i + " " + k, x.rope(i, k), m.rope(i, k));
        for (int i = 0; i < 40; i++) for (int k = 0; k < 4; k++) due("event " + i + " " + k, x.event(i, k), m.event(i, k));
        for (int i = 0; i < 10; i++) due("law " + i, x.law(i), m.law(i));
        for (int k = 0; k < 8; k++) due("count " + k, x.count(k), m.count(k));
    }

    public static void main(String[] args) {
        int runs = args.length > 0 ? Integer.parseInt(args[0]) : 400;
        int seeds = args.length > 1 ? Integer.parseInt(args[1]) : 1;
        for (int run = 0; run < runs; run++) {
            random = new Random((1000003L * seeds + run) * 0x9E3779B97F4A7C15L);
            x = new RaftTown();
            m = new Model();
            story = new StringBuilder();
            if (run % 8 == 0) settle();
            int first = random.nextInt(100);
            for (int i = 0; i < first; i++) build();
            for (int i = first; i < 400; i++) {
                int dice = random.nextInt(10);
                if (dice < 3) build(); else if (dice < 5) goOn(); else ask();
            }
            askAll();
        }
        System.out.println(calls + " calls answered as the model answers them");
    }
}
