import java.io.IOException;
import java.lang.reflect.InvocationTargetException;
import java.lang.reflect.Method;
import java.lang.reflect.Modifier;
import java.nio.file.Files;
import java.nio.file.Path;
import java.util.ArrayList;
import java.util.Arrays;
import java.util.HashMap;
import java.util.LinkedHashMap;
import java.util.List;
import java.util.Map;

/**
 * Runs src/test/edges.md: the document, sentence by sentence, each with runs of its own. Behind each call
 * that is refused all that can be asked is asked, and must be as if it had not been called. All the words
 * of the document's terms and promises must be quoted there.
 */
public final class EdgesTest {
    private static final List<String> FINDINGS = List.of(
        "BEYOND", "MISSING", "SIZE", "KIND", "FULL", "NONE", "TAKEN", "APART", "BARRED");
    private static final int MOST_CALLS = 512;
    private static final Map<String, Method> FACE = new HashMap<>();
    private static final String[] MORE = {
        "raft(1,14,60,60)", "raft(1,14,60,60)", "raft(1,14,60,60)", "person(0,-3,-1,-1)", "person(1,-4,-1,-1)",
        "load(0,2,false)", "load(1,2,false)", "tell(4,'tie 1;cut 1;speak 1;')", "force(4,0)", "force(4,1)",
        "tie(1,3,2,3,60)", "force(4,0)", "tape('tie ')",
        "sheet(0,8,4) put(0,0,1) put(0,1,3)", "sheet(1,16,3) put(1,1,2)", "sheet(2,32,2) put(2,1,1)", "sheet(3,8,1)",
        "image()",
    };

    private static int wrong = 0;
    private static int answers = 0;
    private static int refusals = 0;

    private static void complain(String what) {
        wrong++;
        System.out.println(what);
    }

    // ---- calls

    /** A call of a run; no due answer: any but a finding. */
    private static final class Call {
        final Method method;
        final Object[] given;
        final Integer due;

        Call(String name, List<String> words, Integer due) {
            method = FACE.get(name);
            if (method == null || method.getParameterCount() != words.size()) {
                throw new IllegalArgumentException("no such call: " + name + words);
            }
            given = new Object[words.size()];
            for (int i = 0; i < given.length; i++) {
                given[i] = parsed(method.getParameterTypes()[i], words.get(i));
            }
            this.due = due;
        }

        private static Object parsed(Class<?> type, String word) {
            if (type == boolean.class) {
                if (!word.equals("true") && !word.equals("false")) {
                    throw new IllegalArgumentException(word);
                }
                return word.equals("true");
            }
            if (type == long.class) {
                return Long.decode(word);
            }
            return word.equals("MIN") ? Integer.valueOf(Integer.MIN_VALUE)
                : word.equals("MAX") ? Integer.valueOf(Integer.MAX_VALUE) : Integer.decode(word);
        }

        int on(RaftTown x) {
            try {
                return (Integer) method.invoke(x, given);
            } catch (IllegalAccessException e) {
                throw new IllegalStateException(e);
            } catch (InvocationTargetException e) {
                complain(this + " threw " + e.getCause());
                return Integer.MIN_VALUE;
            }
        }

        @Override
        public String toString() {
            String s = Arrays.toString(given);
            return method.getName() + "(" + s.substring(1, s.length() - 1) + ")";
        }
    }

    /** Reads the calls of a run: call(1,2)=3, n{..}, and what is told by a text in quotes. */
    private static final class Reader {
        private final String source;
        private int at = 0;

        Reader(String source) {
            this.source = source;
        }

        List<Call> run() {
            List<Call> calls = new ArrayList<>();
            for (char c = skip(); c != 0 && c != '}'; c = skip()) {
                if (Character.isDigit(c)) {
                    int n = Integer.parseInt(word());
                    pass('{');
                    List<Call> again = run();
                    pass('}');
                    for (int i = 0; i < n; i++) {
                        calls.addAll(again);
                    }
                } else {
                    call(calls);
                }
            }
            return calls;
        }

        private char skip() {
            while (at < source.length() && source.charAt(at) == ' ') {
                at++;
            }
            return at < source.length() ? source.charAt(at) : 0;
        }

        void endsHere() {
            if (skip() != 0) {
                throw new IllegalArgumentException("what is this: " + source.substring(at));
            }
        }

        private void pass(char due) {
            if (skip() != due) {
                throw new IllegalArgumentException(due + " is due at: " + source.substring(at));
            }
            at++;
        }

        private String word() {
            skip();
            int from = at;
            while (at < source.length() && (Character.isLetterOrDigit(source.charAt(at)) || source.charAt(at) == '-')) {
                at++;
            }
            return source.substring(from, at);
        }

        private void call(List<Call> calls) {
            String name = word();
            List<String> words = new ArrayList<>();
            pass('(');
            for (char c = skip(); c != ')'; c = skip()) {
                if (c == '\'') {
                    int to = source.indexOf('\'', at + 1);
                    words.add(source.substring(at + 1, to));
                    at = to + 1;
                } else {
                    words.add(word());
                }
                if (skip() == ',') {
                    at++;
                }
            }
            pass(')');
            Integer due = null;
            if (skip() == '=') {
                at++;
                due = number(word());
            }
            add(calls, name, words, due);
        }

        private static int number(String word) {
            return FINDINGS.contains(word) ? -100001 - FINDINGS.indexOf(word) : Integer.parseInt(word);
        }

        private static void add(List<Call> calls, String name, List<String> words, Integer due) {
            switch (name) {
                case "tape":
                    feed(calls, words.get(0));
                    break;
                case "tell":
                    feed(calls, words.get(1));
                    calls.add(new Call("text", List.of(words.get(0)), -1));
                    break;
                case "sound":
                    feed(calls, words.get(0));
                    calls.add(new Call("text", List.of("0"), -1));
                    break;
                case "comes":
                    feed(calls, "tie 0;cut " + words.get(0) + ";speak 0;");
                    calls.add(new Call("text", List.of("0"), -1));
                    calls.add(new Call("may", List.of("0", "0"), due));
                    break;
                case "fault":
                    feed(calls, words.get(0).replace("|", ""));
                    calls.add(new Call("text", List.of("0"), bytes(words.get(0)).indexOf('|')));
                    break;
                default:
                    calls.add(new Call(name, words, due));
                    break;
            }
        }

        /** A byte may be told by its number: #0A. */
        private static String bytes(String text) {
            StringBuilder b = new StringBuilder();
            for (int i = 0; i < text.length(); i++) {
                if (text.charAt(i) == '#') {
                    b.append((char) Integer.parseInt(text.substring(i + 1, i + 3), 16));
                    i += 2;
                } else {
                    b.append(text.charAt(i));
                }
            }
            return b.toString();
        }

        private static void feed(List<Call> calls, String text) {
            String row = bytes(text);
            for (int i = 0; i < row.length(); i += 8) {
                int n = Math.min(8, row.length() - i);
                long v = 0;
                for (int k = 0; k < n; k++) {
                    v |= (long) row.charAt(i + k) << 8 * k;
                }
                calls.add(new Call("feed", List.of("" + n, "" + v), null));
            }
        }
    }

    // ---- that nothing has changed

    private interface Probe {
        void on(RaftTown x, Answers to);
    }

    private static final class Answers {
        private final int[] row = new int[MOST_CALLS];
        private int size = 0;

        void add(int answer) {
            row[size] = answer;
            size++;
        }
    }

    private static void askState(RaftTown x, Answers to) {
        for (int i = 0; i < 10; i++) for (int k = 0; k < 10; k++) to.add(x.raftIs(i, k));
        for (int i = 0; i < 14; i++) for (int k = 0; k < 6; k++) to.add(x.personIs(i, k));
        for (int i = 0; i < 12; i++) for (int k = 0; k < 7; k++) to.add(x.rope(i, k));
        for (int k = 0; k < 7; k++) to.add(x.count(k));
        to.add(x.parts());
    }

    private static void askKnown(RaftTown x, Answers to) {
        for (int i = 0; i < 40; i++) for (int k = 0; k < 4; k++) to.add(x.event(i, k));
        for (int i = -1; i < 10; i++) to.add(x.events(i));
        for (int i = 0; i < 10; i++) {
            to.add(x.law(i));
            to.add(x.part(i));
            to.add(x.lasts(i));
            to.add(x.speaks(i));
            for (int k = 0; k < 10; k++) to.add(x.must(i, k));
        }
        for (int i = 0; i < 12; i++) to.add(x.may(i, 20));
    }

    private static void askPlans(RaftTown x, Answers to) {
        for (int w = 0; w <= 20; w += 4) {
            for (int i = 0; i < 12; i++) to.add(x.bears(i, w));
            for (int i = -1; i < 4; i++) to.add(x.worst(w, i));
            to.add(x.storm(w, false));
            to.add(x.lash(0, w));
        }
        for (int i = 0; i < 10; i++) {
            to.add(x.patch(i, 1));
            to.add(x.patch(i, 9));
            for (int k = 0; k < 10; k++) to.add(x.tow(i, k));
        }
    }

    /** A FLOAT that is not SUNK, if there is one. */
    private static int afloat(RaftTown x) {
        for (int i = 0; i < 10; i++) {
            if (x.part(i) >= 0) {
                return i;
            }
        }
        return 0;
    }

    private static void askTape(RaftTown x, Answers to) {
        int raft = afloat(x);
        to.add(x.feed(1, ' '));
        to.add(x.text(4));
        to.add(x.force(4, raft));
        for (int i = 0; i < 12; i++) to.add(x.may(i, 3));
        for (int i = 0; i < 10; i++) to.add(x.must(raft, i));
        to.add(x.speaks(raft));
    }

    private static void askTexts(RaftTown x, Answers to) {
        int raft = afloat(x);
        for (int t = 0; t < 5; t++) {
            to.add(x.force(t, raft));
            for (int i = 0; i < 12; i++) to.add(x.may(i, 5));
            for (int i = 0; i < 10; i++) to.add(x.must(raft, i));
            to.add(x.speaks(raft));
        }
    }

    private static void askProofs(RaftTown x, Answers to) {
        for (int s = 0; s < 4; s++) for (int n = 0; n <= 12; n++) for (int w = 0; w <= 20; w += 10) {
            to.add(x.proves((1 << n) - 1, w, s));
        }
    }

    private static void askSheets(RaftTown x, Answers to) {
        for (int s = 0; s < 4; s++) for (int t = 0; t < 4; t++) to.add(x.copy(s, 0, t, 0, 0));
        for (int s = 0; s < 4; s++) for (int i = 0; i < 21; i++) to.add(x.put(s, i, 0));
    }

    private static void askOnward(RaftTown x, Answers to) {
        to.add(x.raft(1, 14, 9, 9));
        to.add(x.person(0, 0, -1, -1));
        for (int i = 1; i < 10; i++) to.add(x.tie(0, 3, i, 3, 50));
        for (int d = 0; d < 6; d++) to.add(x.day(1, 1));
        askState(x, to);
    }

    private static List<Probe> probes() {
        List<Probe> probes = new ArrayList<>(List.of(EdgesTest::askState, EdgesTest::askKnown, EdgesTest::askPlans,
            EdgesTest::askTape, EdgesTest::askTexts, EdgesTest::askProofs, EdgesTest::askSheets, EdgesTest::askOnward));
        for (int s = 0; s < 4; s++) {
            int sheet = s;
            probes.add((x, to) -> {
                to.add(x.days(10, sheet));
                askState(x, to);
            });
        }
        probes.add((x, to) -> {
            to.add(x.restore());
            askState(x, to);
        });
        probes.add((x, to) -> {
            to.add(x.restore());
            askKnown(x, to);
        });
        return probes;
    }

    private static Answers probed(List<Call> calls, Call last, Probe probe) {
        RaftTown x = new RaftTown();
        for (Call call : calls) {
            call.on(x);
        }
        int before = x.count(7);
        if (last != null) {
            last.on(x);
            if (x.count(7) != before + 1) {
                complain(last + " is not counted by count(7)");
            }
        }
        Answers to = new Answers();
        probe.on(x, to);
        if (calls.size() + 2 + to.size > MOST_CALLS) {
            complain("too many calls to ask whether anything changed");
        }
        return to;
    }

    private static int answerBehind(List<Call> calls, Call last) {
        RaftTown x = new RaftTown();
        for (Call call : calls) {
            call.on(x);
        }
        return last.on(x);
    }

    /** More that could be changed: each as far as the call is still refused in the same way behind it. */
    private static List<Call> enriched(List<Call> calls, Call last) {
        List<Call> rich = new ArrayList<>(calls);
        for (String more : MORE) {
            List<Call> richer = new ArrayList<>(rich);
            richer.addAll(new Reader(more).run());
            if (answerBehind(richer, last) == last.due) {
                rich = richer;
            }
        }
        return rich;
    }

    /** A call that is refused, as the one at a place of a run, leaves all as it was. */
    private static void changesNothing(String where, List<Call> calls, int place) {
        refusals++;
        Call last = calls.get(place);
        List<Call> ahead = calls.subList(0, place);
        List<Call> rich = enriched(ahead, last);
        int n = 0;
        for (Probe probe : probes()) {
            if (!Arrays.equals(probed(ahead, null, probe).row, probed(ahead, last, probe).row)
                    || !Arrays.equals(probed(rich, null, probe).row, probed(rich, last, probe).row)) {
                complain(where + "\n  " + last + " was refused, but changed something (probe " + n + ")");
                return;
            }
            n++;
        }
    }

    private static int check(String where, List<Call> calls) {
        RaftTown x = new RaftTown();
        int asked = 0;
        if (calls.size() > MOST_CALLS) {
            complain(where + "\n  the run is too long: " + calls.size());
        }
        for (int i = 0; i < calls.size(); i++) {
            Call call = calls.get(i);
            int answer = call.on(x);
            if (call.due == null) {
                if (answer < -99999) {
                    complain(where + "\n  call " + i + ": " + call + " answered " + answer + ", which is not told");
                }
                continue;
            }
            asked++;
            answers++;
            if (answer != call.due) {
                complain(where + "\n  call " + i + ": " + call + " answered " + answer + ", due is " + call.due);
            } else if (answer < -99999) {
                changesNothing(where, calls, i);
            }
        }
        return asked;
    }

    // ---- the document, and what of it is quoted

    private static final class Section {
        final String text;
        final boolean[] quoted;

        Section(String text) {
            this.text = text;
            quoted = new boolean[text.length()];
        }

        boolean quote(String words) {
            int at = text.indexOf(words);
            for (int i = 0; at >= 0 && i < words.length(); i++) {
                quoted[at + i] = true;
            }
            return at >= 0;
        }

        /** Words that are not quoted; signs alone don't count. */
        String rest() {
            StringBuilder b = new StringBuilder();
            for (int i = 0; i < text.length(); i++) {
                b.append(quoted[i] ? ' ' : text.charAt(i));
            }
            String rest = b.toString().replaceAll("\\s+", " ").trim();
            return rest.matches("[^A-Za-z]*") ? "" : rest;
        }
    }

    private static String plain(String text) {
        return text.replaceAll("```text|```", " ").replaceAll("(?m)^Ahead of the calls .*$", " ")
            .replaceAll("(?m)^`[^`]*`:", " ").replaceAll("\\s+", " ").trim();
    }

    private static Map<String, Section> document() throws IOException {
        String doc = Files.readString(Path.of("../shared/DOC.md"));
        Map<String, Section> sections = new LinkedHashMap<>();
        for (String block : doc.split("(?m)^## ")) {
            int end = block.indexOf('\n');
            String name = end < 0 ? block : block.substring(0, end).trim();
            if (name.equals("Terms") || name.startsWith("Promise ")) {
                sections.put(name, new Section(plain(block.substring(end))));
            }
        }
        return sections;
    }

    // ---- the sheet of edges

    private static final class Sheet {
        private final Map<String, Section> sections;
        private Section section = null;
        private String name = "";
        private String quote = "";
        private int askedOfQuote = 1;
        private final StringBuilder run = new StringBuilder();

        Sheet(Map<String, Section> sections) {
            this.sections = sections;
        }

        void read(List<String> lines) {
            boolean inQuote = false;
            for (String line : lines) {
                if (line.startsWith("    ")) {
                    run.append(line.trim()).append(' ');
                } else {
                    endRun();
                }
                if (line.startsWith("## ")) {
                    endQuote();
                    name = line.substring(3).trim();
                    section = sections.get(name);
                    if (section == null) {
                        throw new IllegalArgumentException("no such section: " + name);
                    }
                } else if (line.startsWith("> ")) {
                    if (inQuote) {
                        quote = quote + " " + line.substring(2).trim();
                    } else {
                        endQuote();
                        quote = line.substring(2).trim();
                        askedOfQuote = 0;
                    }
                }
                inQuote = line.startsWith("> ");
            }
            endRun();
            endQuote();
            for (Map.Entry<String, Section> one : sections.entrySet()) {
                if (!one.getValue().rest().isEmpty()) {
                    complain(one.getKey() + ": not quoted: " + one.getValue().rest());
                }
            }
        }

        private void endRun() {
            if (run.length() > 0) {
                String where = name + " > " + quote + "\n  " + run.toString().trim();
                Reader reader = new Reader(run.toString());
                askedOfQuote += check(where, reader.run());
                reader.endsHere();
            }
            run.setLength(0);
        }

        private void endQuote() {
            if (!quote.isEmpty() && !section.quote(quote)) {
                complain(name + ": the document has no such words: " + quote);
            }
            if (askedOfQuote == 0) {
                complain(name + ": nothing is asked behind: " + quote);
            }
            quote = "";
            askedOfQuote = 1;
        }
    }

    public static void main(String[] args) throws IOException {
        for (Method m : RaftTown.class.getDeclaredMethods()) {
            if (Modifier.isPublic(m.getModifiers())) {
                FACE.put(m.getName(), m);
            }
        }
        new Sheet(document()).read(Files.readAllLines(Path.of("src/test/edges.md")));
        System.out.println(answers + " answers asked, " + refusals + " of them refusals; " + wrong + " complaints");
        if (wrong != 0) {
            System.exit(1);
        }
    }
}
