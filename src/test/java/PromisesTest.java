/** For each promise of the document: ordinary inputs, the edges that it names, and wrong inputs. */
public final class PromisesTest {
    private static final int BEYOND = -100001;
    private static final int MISSING = -100002;
    private static final int SIZE = -100003;
    private static final int KIND = -100004;
    private static final int FULL = -100005;
    private static final int NONE = -100006;
    private static final int TAKEN = -100007;
    private static final int APART = -100008;
    private static final int BARRED = -100009;

    private static int wrong = 0;
    private static int asked = 0;

    private static void due(String call, long got, long want) {
        asked++;
        if (got != want) {
            wrong++;
            System.out.println(call + " answered " + got + ", due is " + want);
        }
    }

    /** Puts a text on the tape, as far as it has room. */
    private static void write(RaftTown x, String text) {
        for (int i = 0; i < text.length(); i += 8) {
            int n = Math.min(8, text.length() - i);
            long bytes = 0;
            for (int k = 0; k < n; k++) {
                bytes |= (long) (text.charAt(i + k) & 255) << 8 * k;
            }
            x.feed(n, bytes);
        }
    }

    private static int tell(RaftTown x, int t, String text) {
        write(x, text);
        return x.text(t);
    }

    private static RaftTown withRafts(int n, int kind) {
        RaftTown x = new RaftTown();
        for (int i = 0; i < n; i++) {
            x.raft(kind, 14, 50, 50);
        }
        return x;
    }

    private static void promise1() {
        RaftTown x = new RaftTown();
        for (int what = 0; what < 8; what++) {
            due("p1 count " + what, x.count(what), 0);
        }
        due("p1 parts", x.parts(), 0);
        due("p1 events", x.events(-1), 0);
        due("p1 text of an empty tape", x.text(0), 0);
        for (int s = 0; s < 4; s++) {
            due("p1 sheet is missing", x.put(s, 0, 0), MISSING);
        }
        due("p1 no image", x.restore(), NONE);
        due("p1 no raft", x.raftIs(0, 0), BEYOND);
        due("p1 no person", x.personIs(0, 0), BEYOND);
        due("p1 no rope", x.rope(0, 0), BEYOND);
        x.raft(0, 14, 9, 9);
        x.day(0, 0);
        due("p1 still water", x.raftIs(0, 1), 14);
        due("p1 day", x.count(3), 1);
    }

    private static void promise2() {
        RaftTown x = new RaftTown();
        due("p2 first", x.stream(0, -1, -1), 1);
        due("p2 last", x.stream(35, 1, 1), 1);
        due("p2 cell below", x.stream(-1, 0, 0), BEYOND);
        due("p2 cell above", x.stream(36, 0, 0), BEYOND);
        due("p2 x below", x.stream(3, -2, 0), BEYOND);
        due("p2 x above", x.stream(3, 2, 0), BEYOND);
        due("p2 y below", x.stream(3, 0, -2), BEYOND);
        due("p2 y above", x.stream(3, 0, 2), BEYOND);
        x.raft(0, 0, 9, 9);
        x.raft(0, 35, 9, 9);
        x.raft(0, 5, 9, 9);
        x.raft(0, 15, 9, 9);
        due("p2 along the edge", x.stream(5, 1, 1), 1);
        due("p2 inside", x.stream(15, -1, 1), 1);
        x.day(0, 0);
        due("p2 leads to no cell", x.raftIs(0, 1), 0);
        due("p2 leads to no cell either", x.raftIs(1, 1), 35);
        due("p2 x leads off, y doesn't", x.raftIs(2, 1), 5);
        due("p2 leads on", x.raftIs(3, 1), 20);
        due("p2 changed", x.stream(5, 0, 1), 1);
        x.day(0, 0);
        due("p2 down", x.raftIs(2, 1), 11);
    }

    private static void promise3() {
        RaftTown x = new RaftTown();
        due("p3 kind below", x.raft(-1, 0, 1, 0), BEYOND);
        due("p3 kind above", x.raft(6, 0, 1, 0), BEYOND);
        due("p3 cell below", x.raft(0, -1, 1, 0), BEYOND);
        due("p3 cell above", x.raft(0, 36, 1, 0), BEYOND);
        due("p3 planks below", x.raft(0, 0, 0, 0), BEYOND);
        due("p3 planks above", x.raft(0, 0, 100, 0), BEYOND);
        due("p3 hold below", x.raft(0, 0, 1, -1), BEYOND);
        due("p3 hold above", x.raft(0, 0, 1, 100), BEYOND);
        due("p3 wild", x.raft(Integer.MAX_VALUE, Integer.MIN_VALUE, 1, 1), BEYOND);
        due("p3 least", x.raft(0, 0, 1, 0), 0);
        due("p3 most", x.raft(5, 35, 99, 99), 1);
        x.day(0, 0);
        due("p3 sunk", x.raftIs(0, 9), 1);
        for (int i = 2; i < 10; i++) {
            due("p3 number", x.raft(1, 3, 5, 5), i);
        }
        due("p3 full, though one is sunk", x.raft(1, 3, 5, 5), FULL);
        due("p3 beyond ahead of full", x.raft(6, 3, 5, 5), BEYOND);
        due("p3 afloat", x.count(0), 9);
    }

    private static void promise4() {
        RaftTown x = new RaftTown();
        // Rows: the kind that it is; columns: the kind as which it is asked.
        String[] fits = {"100000", "110000", "111000", "110100", "100010", "110001"};
        for (int kind = 0; kind < 6; kind++) {
            x.raft(kind, 0, 1, 1);
            for (int as = 0; as < 6; as++) {
                due("p4 " + kind + " as " + as, x.as(kind, as),
                        fits[kind].charAt(as) == '1' ? kind : KIND);
            }
        }
        due("p4 no such raft", x.as(6, 0), BEYOND);
        due("p4 no such raft", x.as(-1, 0), BEYOND);
        due("p4 no such kind", x.as(0, 6), BEYOND);
        due("p4 no such kind", x.as(0, -1), BEYOND);
        x.day(0, 0);
        due("p4 sunk", x.raftIs(2, 9), 1);
        due("p4 sunk, too", x.as(2, 1), 2);
    }

    private static void promise5() {
        RaftTown x = new RaftTown();
        x.raft(2, 13, 20, 40);
        x.raft(3, 13, 30, 50);
        x.load(0, 7, false);
        x.load(0, 3, true);
        x.person(0, -5, -1, -1);
        x.person(0, -5, -1, -1);
        x.tie(0, 0, 1, 0, 50);
        int[] hall = {2, 13, 20, 40, 7, 3, 5 + 6 + 10 + 4 + 5, 3, 0, 0};
        int[] garden = {3, 13, 30, 50, 0, 0, 9, 2, 0, 0};
        for (int what = 0; what < 10; what++) {
            due("p5 hall " + what, x.raftIs(0, what), hall[what]);
            due("p5 garden " + what, x.raftIs(1, what), garden[what]);
        }
        int[] area = {1, 2, 3, 2, 1, 0};
        int[] weight = {7, 9, 16, 9, 7, 5};
        for (int kind = 0; kind < 6; kind++) {
            int n = x.raft(kind, 2, 1, 5);
            due("p5 area", x.raftIs(n, 7), area[kind]);
            due("p5 weight", x.raftIs(n, 6), weight[kind]);
            due("p5 alone", x.raftIs(n, 8), n);
        }
        x.load(2, 4, true);
        x.day(0, 0);
        int[] sunk = {0, 2, 0, 5, 0, 0, 7, 1, 2, 1};
        for (int what = 0; what < 10; what++) {
            due("p5 sunk " + what, x.raftIs(2, what), sunk[what]);
        }
        due("p5 no such what", x.raftIs(0, 10), BEYOND);
        due("p5 no such what", x.raftIs(0, -1), BEYOND);
        due("p5 no such raft", x.raftIs(8, 0), BEYOND);
        due("p5 no such raft", x.raftIs(-1, 0), BEYOND);
    }

    private static void promise6() {
        RaftTown x = new RaftTown();
        x.raft(1, 0, 1, 10);
        x.raft(1, 0, 9, 0);
        due("p6 water", x.load(0, 4, false), 4);
        due("p6 goods", x.load(0, 5, true), 5);
        due("p6 both fill it", x.load(0, 2, false), FULL);
        due("p6 the last", x.load(0, 1, false), 5);
        due("p6 none fits always", x.load(0, 0, true), 5);
        due("p6 no room", x.load(0, 1, true), FULL);
        due("p6 no hold", x.load(1, 1, true), FULL);
        due("p6 no hold, nothing", x.load(1, 0, true), 0);
        due("p6 below", x.load(0, -1, true), BEYOND);
        due("p6 above", x.load(0, 100, true), BEYOND);
        due("p6 no such raft", x.load(2, 1, true), BEYOND);
        due("p6 no such raft", x.load(-1, 1, true), BEYOND);
        x.day(0, 0);
        due("p6 sunk", x.load(0, 1, true), NONE);
        due("p6 beyond ahead of sunk", x.load(0, 100, true), BEYOND);
    }

    private static void promise7() {
        RaftTown x = withRafts(2, 1);
        x.raft(1, 14, 50, 3);
        x.raft(1, 14, 50, 50);
        x.raft(1, 14, 1, 50);
        x.tie(0, 0, 1, 0, 90);
        x.tie(1, 1, 2, 0, 90);
        x.load(0, 9, false);
        x.load(0, 8, true);
        due("p7 water over two ropes", x.trade(0, 2, 2, false), 2);
        due("p7 goods", x.trade(0, 2, 1, true), 1);
        due("p7 full", x.trade(0, 2, 1, true), FULL);
        due("p7 nothing", x.trade(0, 2, 0, true), 1);
        due("p7 missing ahead of full", x.trade(0, 2, 8, true), MISSING);
        due("p7 all", x.trade(0, 1, 7, false), 7);
        due("p7 left", x.raftIs(0, 4), 0);
        due("p7 goods stay", x.raftIs(0, 5), 7);
        due("p7 missing", x.trade(0, 1, 1, false), MISSING);
        due("p7 one", x.trade(0, 0, 1, true), SIZE);
        due("p7 apart", x.trade(0, 3, 1, true), APART);
        due("p7 apart ahead of missing", x.trade(3, 0, 1, true), APART);
        due("p7 no such raft", x.trade(0, 5, 1, true), BEYOND);
        due("p7 no such raft", x.trade(-1, 0, 1, true), BEYOND);
        due("p7 n", x.trade(0, 1, -1, true), BEYOND);
        due("p7 n", x.trade(0, 1, 100, true), BEYOND);
        x.day(0, 0);
        due("p7 sunk", x.trade(0, 4, 1, true), NONE);
        due("p7 sunk ahead of one", x.trade(4, 4, 1, true), NONE);
        due("p7 casks", x.count(4), 17);
    }

    private static void promise8() {
        RaftTown x = new RaftTown();
        x.raft(1, 0, 50, 50);
        x.raft(1, 0, 1, 50);
        due("p8 first", x.person(0, 0, -1, -1), 0);
        due("p8 born early", x.person(0, -9999, 0, -1), 1);
        due("p8 two parents", x.person(0, -3, 1, 0), 2);
        due("p8 second alone", x.person(0, -3, -1, 2), 3);
        due("p8 born late", x.person(0, 1, -1, -1), BEYOND);
        due("p8 born too early", x.person(0, -10000, -1, -1), BEYOND);
        due("p8 no such raft", x.person(2, 0, -1, -1), BEYOND);
        due("p8 no such raft", x.person(-1, 0, -1, -1), BEYOND);
        due("p8 its own parent", x.person(0, 0, 4, -1), BEYOND);
        due("p8 its own parent", x.person(0, 0, -1, 4), BEYOND);
        due("p8 no such parent", x.person(0, 0, -2, -1), BEYOND);
        due("p8 the same", x.person(0, 0, 1, 1), BEYOND);
        x.day(0, 0);
        due("p8 sunk", x.person(1, 0, -1, -1), NONE);
        due("p8 beyond ahead of sunk", x.person(1, 1, -1, -1), BEYOND);
        for (int p = 4; p < 14; p++) {
            due("p8 number", x.person(0, 0, -1, -1), p);
        }
        due("p8 full", x.person(0, 0, -1, -1), FULL);
        due("p8 sunk ahead of full", x.person(1, 0, -1, -1), NONE);
        due("p8 heads", x.count(1), 14);
    }

    private static void promise9() {
        RaftTown x = new RaftTown();
        x.raft(1, 0, 50, 50);
        x.raft(1, 0, 1, 50);
        for (int p = 0; p < 4; p++) {
            x.person(0, 0, -1, -1);
        }
        x.person(1, 0, -1, -1);
        due("p9 one", x.wed(2, 2), SIZE);
        due("p9 wed", x.wed(0, 3), 1);
        due("p9 of one", x.personIs(0, 2), 3);
        due("p9 of the other", x.personIs(3, 2), 0);
        due("p9 of none", x.personIs(1, 2), -1);
        due("p9 again", x.wed(3, 0), TAKEN);
        due("p9 first taken", x.wed(0, 1), TAKEN);
        due("p9 second taken", x.wed(1, 3), TAKEN);
        due("p9 no such", x.wed(0, 5), BEYOND);
        due("p9 no such", x.wed(-1, 0), BEYOND);
        due("p9 beyond ahead of one", x.wed(5, 5), BEYOND);
        x.wed(1, 4);
        x.day(0, 0);
        due("p9 lost", x.personIs(4, 3), 1);
        due("p9 lost ahead of taken", x.wed(0, 4), NONE);
        due("p9 one ahead of lost", x.wed(4, 4), SIZE);
        due("p9 still wed to who is lost", x.wed(1, 2), TAKEN);
    }

    private static void promise10() {
        RaftTown x = withRafts(4, 1);
        x.raft(1, 14, 1, 50);
        x.tie(0, 0, 1, 0, 90);
        x.tie(1, 1, 2, 0, 90);
        x.person(0, 0, -1, -1);
        x.person(4, 0, -1, -1);
        due("p10 over two ropes", x.move(0, 2), 0);
        due("p10 is there", x.personIs(0, 0), 2);
        due("p10 where it is", x.move(0, 2), 2);
        due("p10 weight", x.raftIs(2, 6), 11);
        due("p10 weight behind", x.raftIs(0, 6), 9);
        due("p10 apart", x.move(0, 3), APART);
        due("p10 stays", x.personIs(0, 0), 2);
        due("p10 no such person", x.move(2, 0), BEYOND);
        due("p10 no such person", x.move(-1, 0), BEYOND);
        due("p10 no such raft", x.move(0, 5), BEYOND);
        x.day(0, 0);
        due("p10 raft is sunk", x.move(0, 4), NONE);
        due("p10 is lost", x.move(1, 0), NONE);
    }

    private static void promise11() {
        RaftTown x = withRafts(2, 1);
        x.person(0, -100, -1, -1);
        x.person(0, -90, -1, -1);
        x.person(1, -50, 0, 1);
        x.person(1, -40, 1, -1);
        x.person(1, -30, -1, -1);
        x.person(1, -20, 4, 2);
        x.wed(4, 3);
        due("p11 raft", x.personIs(2, 0), 1);
        due("p11 born", x.personIs(2, 1), -50);
        due("p11 lost", x.personIs(2, 3), 0);
        due("p11 thirst", x.personIs(2, 4), 0);
        due("p11 kin: a parent", x.personIs(0, 5), 1 << 2);
        due("p11 kin: children", x.personIs(1, 5), 1 << 2 | 1 << 3);
        due("p11 kin: parents, half kin, child", x.personIs(2, 5), 1 | 2 | 1 << 3 | 1 << 5);
        due("p11 kin: wed", x.personIs(3, 5), 2 | 1 << 2 | 1 << 4);
        due("p11 kin: wed and child", x.personIs(4, 5), 1 << 3 | 1 << 5);
        due("p11 kin: not grandparents", x.personIs(5, 5), 1 << 4 | 1 << 2);
        due("p11 no such what", x.personIs(0, 6), BEYOND);
        due("p11 no such what", x.personIs(0, -1), BEYOND);
        due("p11 no such person", x.personIs(6, 0), BEYOND);
        due("p11 no such person", x.personIs(-1, 0), BEYOND);
        x.load(0, 2, false);
        x.day(0, 0);
        due("p11 drank", x.personIs(0, 4), 0);
        due("p11 thirsts", x.personIs(2, 4), 1);
        x.day(0, 0);
        due("p11 thirsts", x.personIs(2, 4), 2);
        x.load(1, 1, false);
        x.day(0, 0);
        due("p11 drank at last", x.personIs(2, 4), 0);
        due("p11 lost on the third", x.personIs(3, 3), 1);
        due("p11 thirst as it was", x.personIs(3, 4), 3);
        due("p11 last raft", x.personIs(3, 0), 1);
        due("p11 still wed", x.personIs(4, 2), 3);
        due("p11 lost kin, too", x.personIs(1, 5), 1 << 2 | 1 << 3);
        due("p11 weight without the lost", x.raftIs(1, 6), 11);
        due("p11 heads", x.count(1), 3);
    }

    private static void promise12() {
        RaftTown x = withRafts(4, 1);
        x.raft(2, 14, 50, 50);
        x.raft(1, 15, 50, 50);
        x.raft(1, 14, 1, 50);
        due("p12 first", x.tie(0, 0, 1, 3, 1), 0);
        due("p12 its floats", x.rope(0, 0), 0);
        due("p12 no such raft", x.tie(0, 1, 7, 0, 5), BEYOND);
        due("p12 no such raft", x.tie(-1, 1, 1, 0, 5), BEYOND);
        due("p12 no such side", x.tie(0, 4, 1, 0, 5), BEYOND);
        due("p12 no such side", x.tie(0, 1, 1, -1, 5), BEYOND);
        due("p12 strength", x.tie(0, 1, 1, 0, 0), BEYOND);
        due("p12 strength", x.tie(0, 1, 1, 0, 100), BEYOND);
        due("p12 one", x.tie(0, 1, 0, 2, 5), SIZE);
        due("p12 cells", x.tie(0, 1, 5, 0, 5), APART);
        due("p12 side is taken", x.tie(0, 0, 2, 0, 5), TAKEN);
        due("p12 other's side is taken", x.tie(2, 0, 1, 3, 5), TAKEN);
        due("p12 apart ahead of taken", x.tie(0, 0, 5, 0, 5), APART);
        due("p12 a hall's side", x.tie(4, 0, 2, 0, 5), 1);
        due("p12 a hall's side again", x.tie(3, 0, 4, 0, 5), 2);
        due("p12 a hall's side is full", x.tie(4, 0, 3, 1, 5), TAKEN);
        due("p12 two ropes between two", x.tie(0, 1, 1, 1, 99), 3);
        x.cut(1);
        due("p12 the least number", x.tie(4, 0, 2, 0, 5), 1);
        x.day(0, 0);
        due("p12 sunk", x.tie(0, 2, 6, 0, 5), NONE);
        due("p12 one ahead of sunk", x.tie(6, 2, 6, 0, 5), SIZE);
        x.raft(2, 14, 50, 50);
        for (int r = 4; r < 12; r++) {
            due("p12 number", x.tie(4, 1 + (r - 4) / 2 % 3, 7, (r - 4) / 2, 9), r < 10 ? r : TAKEN);
        }
        due("p12 ten", x.tie(0, 2, 2, 1, 9), 10);
        due("p12 eleven", x.tie(0, 3, 2, 2, 9), 11);
        due("p12 full", x.tie(1, 2, 2, 3, 9), FULL);
        due("p12 taken ahead of full", x.tie(1, 2, 2, 2, 9), TAKEN);
        due("p12 all", x.count(2), 12);
    }

    private static void promise13() {
        RaftTown x = withRafts(3, 1);
        x.tie(0, 0, 1, 0, 20);
        x.tie(1, 1, 2, 0, 20);
        x.tie(0, 1, 2, 1, 20);
        due("p13 still one part", x.cut(0), 1);
        due("p13 no more", x.cut(0), NONE);
        due("p13 two parts", x.cut(1), 2);
        due("p13 no such", x.cut(3), BEYOND);
        due("p13 no such", x.cut(-1), BEYOND);
        due("p13 event", x.event(4, 0), 2);
        due("p13 event's number", x.event(4, 1), 1);
        tell(x, 0, "tie 1;cut waves+load;speak 1;");
        x.force(0, 0);
        due("p13 barred: waves are 0", x.cut(2), BARRED);
        due("p13 it is still there", x.rope(2, 0), 0);
        tell(x, 0, "tie 0;cut 0-1;speak 1;");
        due("p13 not 0 lets it", x.cut(2), 3);
        due("p13 ropes", x.count(2), 0);
        x.tie(1, 0, 2, 0, 20);
        tell(x, 0, "tie 0;cut 0;speak 1;");
        due("p13 both know it", x.cut(0), BARRED);
    }

    private static void promise14() {
        RaftTown x = withRafts(3, 1);
        x.load(1, 20, true);
        x.tie(2, 3, 1, 2, 30);
        x.tie(1, 0, 0, 1, 30);
        due("p14 first", x.rope(0, 0), 2);
        due("p14 second", x.rope(0, 1), 1);
        due("p14 strength", x.rope(0, 2), 30);
        due("p14 age", x.rope(0, 3), 0);
        due("p14 hang: the lighter part", x.rope(0, 4), 9);
        due("p14 side", x.rope(0, 5), 3);
        due("p14 side", x.rope(0, 6), 2);
        x.tie(0, 0, 2, 0, 30);
        due("p14 hang in a ring: half of the lighter float", x.rope(0, 4), 4);
        x.cut(2);
        x.load(2, 40, true);
        x.load(0, 6, true);
        due("p14 hang: 15 + 29 against 49", x.rope(0, 4), 44);
        for (int d = 0; d < 5; d++) {
            x.day(0, 0);
        }
        due("p14 aged", x.rope(1, 3), 5);
        due("p14 a third, cut", x.rope(1, 2), 29);
        x.day(0, 1);
        due("p14 wet once", x.rope(1, 2), 30 - 2 - 2);
        for (int d = 0; d < 12; d++) {
            x.day(0, 9);
        }
        due("p14 0 at least", x.rope(1, 2), 0);
        due("p14 what below", x.rope(0, -1), BEYOND);
        due("p14 what above", x.rope(0, 7), BEYOND);
        due("p14 no more", x.rope(2, 0), NONE);
        due("p14 beyond ahead of no more", x.rope(2, 7), BEYOND);
        due("p14 no such", x.rope(3, 0), BEYOND);
        due("p14 no such", x.rope(-1, 0), BEYOND);
    }

    private static void promise15() {
        RaftTown x = withRafts(3, 1);
        x.tie(0, 0, 1, 0, 30);
        due("p15 none", x.bears(0, 0), 0);
        due("p15 cut", x.bears(0, 7), 7);
        due("p15 most", x.bears(0, 20), 22);
        x.tie(0, 1, 1, 1, 30);
        due("p15 half hangs", x.bears(0, 20), 10);
        due("p15 waves below", x.bears(0, -1), BEYOND);
        due("p15 waves above", x.bears(0, 21), BEYOND);
        due("p15 no such", x.bears(2, 1), BEYOND);
        x.cut(0);
        due("p15 no more", x.bears(0, 1), NONE);
        due("p15 beyond ahead of no more", x.bears(0, 21), BEYOND);
    }

    private static void promises16And17() {
        RaftTown x = withRafts(5, 1);
        x.raft(1, 14, 1, 9);
        due("p16 all alone", x.parts(), 6);
        x.tie(1, 0, 3, 0, 9);
        x.tie(3, 1, 4, 0, 9);
        due("p16 joined", x.parts(), 4);
        due("p17 part", x.part(4), 2 | 8 | 16);
        due("p17 alone", x.part(0), 1);
        due("p17 least", x.raftIs(4, 8), 1);
        x.tie(1, 1, 4, 1, 9);
        due("p16 a ring is one part", x.parts(), 4);
        due("p17 no such", x.part(6), BEYOND);
        due("p17 no such", x.part(-1), BEYOND);
        x.day(0, 0);
        due("p17 sunk", x.part(5), NONE);
        due("p16 without the sunk", x.parts(), 3);
    }

    private static void promise18() {
        RaftTown x = withRafts(4, 1);
        x.tie(0, 0, 1, 0, 5);
        x.tie(1, 1, 2, 0, 5);
        x.tie(2, 1, 3, 0, 5);
        // Waves 5: 9 by 5 by 8 is 5, 18 by 5 by 8 is 11.
        due("p18 the middle one alone", x.worst(5, -1), 1);
        due("p18 the middle one", x.worst(5, 0), 1);
        due("p18 no second", x.worst(5, 1), NONE);
        due("p18 it is as if", x.count(2), 3);
        // Waves 6: 6, 13, 6; then 6 and 6, the least first.
        due("p18 all", x.worst(6, -1), 3);
        due("p18 first", x.worst(6, 0), 1);
        due("p18 second", x.worst(6, 1), 0);
        due("p18 third", x.worst(6, 2), 2);
        due("p18 no fourth", x.worst(6, 3), NONE);
        due("p18 far off", x.worst(6, Integer.MAX_VALUE), NONE);
        due("p18 none", x.worst(0, -1), 0);
        due("p18 none", x.worst(0, 0), NONE);
        due("p18 waves", x.worst(-1, 0), BEYOND);
        due("p18 waves", x.worst(21, -1), BEYOND);
        due("p18 i", x.worst(0, -2), BEYOND);
        // A ring: each bears half of a float, until one parts and throws its load on the others.
        x.tie(3, 1, 0, 1, 1);
        due("p18 ring: 4 by 5 by 8 is 2, above 1; then as before", x.worst(5, -1), 2);
        due("p18 ring first", x.worst(5, 0), 3);
        due("p18 ring second", x.worst(5, 1), 1);
    }

    private static void promise19() {
        RaftTown x = withRafts(4, 1);
        x.tie(0, 0, 1, 0, 5);
        x.tie(1, 1, 2, 0, 5);
        x.tie(2, 1, 3, 0, 5);
        due("p19 waves", x.day(-1, 0), BEYOND);
        due("p19 waves", x.day(21, 0), BEYOND);
        due("p19 rain", x.day(0, -1), BEYOND);
        due("p19 rain", x.day(0, 10), BEYOND);
        due("p19 nothing came of it", x.count(3), 0);
        due("p19 three", x.day(6, 0), 3);
        int[] order = {1, 0, 2};
        int[] known = {15, 3, 12};
        for (int i = 0; i < 3; i++) {
            due("p19 parted", x.event(3 + i, 0), 3);
            due("p19 parted which", x.event(3 + i, 1), order[i]);
            due("p19 known to the part as it was", x.event(3 + i, 3), known[i]);
        }
        due("p19 no ropes", x.count(2), 0);
        due("p19 parts", x.parts(), 4);
    }

    private static void rainAndGardens() {
        RaftTown x = new RaftTown();
        int[] hold = {5, 5, 5, 50, 50, 50};
        for (int kind = 0; kind < 6; kind++) {
            x.raft(kind, 0, 50, hold[kind]);
        }
        x.load(1, 1, true);
        x.day(0, 2);
        int[] water = {2, 4, 5, 3, 2, 0};
        for (int kind = 0; kind < 6; kind++) {
            due("p19 rain on kind " + kind, x.raftIs(kind, 4), water[kind]);
        }
        due("p19 the garden's use", x.count(5), 1);
        x.day(0, 0);
        x.day(0, 0);
        x.day(0, 0);
        x.day(0, 0);
        due("p19 the garden is dry", x.raftIs(3, 4), 0);
        due("p19 the gardens' use", x.count(5), 4);
        due("p19 casks", x.count(4), 2 + 4 + 1 + 5 + 2);
    }

    private static void thirst() {
        RaftTown x = withRafts(4, 1);
        x.tie(0, 0, 1, 0, 50);
        x.tie(1, 1, 2, 0, 50);
        x.load(1, 2, false);
        x.load(2, 2, false);
        x.load(3, 9, false);
        x.person(0, 0, -1, -1);
        x.person(2, 0, -1, -1);
        x.day(0, 0);
        due("p19 of the least of those with most", x.raftIs(1, 4), 1);
        due("p19 of its own first", x.raftIs(2, 4), 1);
        x.day(0, 0);
        due("p19 all is drunk", x.raftIs(1, 4) + x.raftIs(2, 4), 0);
        due("p19 drunk", x.count(5), 4);
        x.day(0, 0);
        x.day(0, 0);
        due("p19 not yet lost", x.count(1), 2);
        x.day(0, 0);
        due("p19 lost", x.count(1), 0);
        due("p19 event", x.event(2, 0), 5);
        due("p19 event's number", x.event(2, 1), 0);
        due("p19 event's day", x.event(2, 2), 4);
        due("p19 event is known", x.event(2, 3), 7);
        due("p19 the second", x.event(3, 1), 1);
        due("p19 the others' water", x.raftIs(3, 4), 9);
    }

    private static void sinking() {
        RaftTown x = new RaftTown();
        x.raft(5, 7, 3, 9);
        x.raft(1, 7, 2, 9);
        x.raft(1, 7, 9, 9);
        x.raft(5, 8, 3, 9);
        x.tie(0, 0, 1, 0, 50);
        x.tie(0, 1, 2, 0, 50);
        x.load(0, 4, true);
        x.load(0, 5, false);
        x.load(1, 9, false);
        x.person(0, 0, -1, -1);
        x.person(3, 0, -1, -1);
        x.person(3, 0, -1, -1);
        x.load(3, 9, false);
        x.stream(7, 1, 0);
        x.day(0, 0);
        due("p19 day 0: all others, too", x.raftIs(1, 2), 1);
        due("p19 day 0: wrecks once", x.raftIs(0, 2), 2);
        due("p19 the part goes as one", x.raftIs(2, 1), 8);
        x.stream(8, 0, 0);
        x.day(0, 0);
        due("p19 day 1: not the others", x.raftIs(1, 2), 1);
        x.day(0, 0);
        due("p19 wreck is sunk", x.raftIs(0, 9), 1);
        due("p19 the other wreck is sunk", x.raftIs(3, 9), 1);
        due("p19 to the least other float", x.personIs(0, 0), 1);
        due("p19 lost", x.personIs(1, 3), 1);
        due("p19 ropes are no more", x.count(2), 0);
        due("p19 in the sea", x.count(6), 4 + 2 + 3);
        due("p19 events", x.events(-1), 6);
        int[] what = {4, 4, 5, 5};
        int[] number = {0, 3, 1, 2};
        int[] known = {7, 8, 8, 8};
        for (int i = 0; i < 4; i++) {
            due("p19 event " + i, x.event(2 + i, 0), what[i]);
            due("p19 event's number " + i, x.event(2 + i, 1), number[i]);
            due("p19 event's day " + i, x.event(2 + i, 2), 2);
            due("p19 event is known to " + i, x.event(2 + i, 3), known[i]);
        }
        x.stream(8, 0, 1);
        x.day(0, 0);
        due("p19 the sunk stay", x.raftIs(0, 1), 8);
        due("p19 the others go", x.raftIs(1, 1), 14);
        for (int d = 4; d < 10; d++) {
            x.day(0, 0);
        }
        due("p19 ahead of day 10", x.raftIs(1, 9), 0);
        x.day(0, 0);
        due("p19 behind day 10", x.raftIs(1, 9), 1);
        due("p19 planks", x.raftIs(2, 2), 7);
    }

    private static void sinkingOneBehindTheOther() {
        RaftTown x = new RaftTown();
        for (int i = 0; i < 3; i++) {
            x.raft(1, 0, i == 2 ? 5 : 1, 9);
        }
        x.tie(0, 0, 1, 0, 50);
        x.tie(1, 1, 2, 0, 50);
        x.person(0, 0, -1, -1);
        x.load(0, 9, false);
        x.day(0, 0);
        due("p19 it went twice", x.personIs(0, 0), 2);
        due("p19 first sunk is known to all", x.event(2, 3), 7);
        due("p19 second sunk is known to who was left", x.event(3, 3), 6);
    }

    private static void promise20() {
        RaftTown x = withRafts(4, 1);
        x.tie(0, 0, 1, 0, 50);
        x.tie(1, 1, 2, 0, 50);
        x.tie(2, 1, 3, 0, 50);
        due("p20 n", x.days(0, 0), BEYOND);
        due("p20 n", x.days(31, 0), BEYOND);
        due("p20 sheet", x.days(1, 4), BEYOND);
        due("p20 sheet", x.days(1, -1), BEYOND);
        due("p20 missing", x.days(1, 0), MISSING);
        x.sheet(0, 8, 9);
        int[] row = {21, 1, 3, 2, 4, 10, 0, 0, 7};
        for (int i = 0; i < row.length; i++) {
            x.put(0, i, row[i]);
        }
        due("p20 a day not as told is as 0, 0", x.days(1, 0), 0);
        due("p20 no rain", x.rope(0, 2), 50);
        due("p20 days: (0,0) (3,2) (3,2) (0,0) (0,0)", x.days(5, 0), 0);
        due("p20 age", x.rope(0, 3), 6);
        due("p20 wet twice", x.rope(0, 2), 50 - 2 - 4);
        due("p20 water", x.raftIs(0, 4), 8);
        x.sheet(1, 16, 2);
        x.put(1, 0, 20);
        x.put(1, 1, 9);
        due("p20 on and on", x.days(30, 1), 3);
        due("p20 day", x.count(3), 36);
        x.sheet(2, 32, 0);
        due("p20 an empty sheet", x.days(2, 2), 0);
        due("p20 day", x.count(3), 38);
        x.sheet(3, 32, 2);
        x.put(3, 0, -1);
        x.put(3, 1, 9);
        int water = x.raftIs(0, 4);
        x.days(1, 3);
        due("p20 below 0 is not as told", x.raftIs(0, 4), water);
    }

    private static void promise21() {
        RaftTown x = withRafts(3, 1);
        x.raft(3, 14, 50, 50);
        x.raft(1, 14, 1, 50);
        due("p21 nobody", x.lasts(0), 9999);
        due("p21 a garden, dry", x.lasts(3), 0);
        x.tie(0, 0, 3, 0, 50);
        x.tie(0, 1, 1, 0, 50);
        x.load(1, 11, false);
        x.load(2, 30, false);
        due("p21 a garden", x.lasts(0), 11);
        x.person(0, 0, -1, -1);
        x.person(1, 0, -1, -1);
        x.person(2, 0, -1, -1);
        due("p21 a garden and two", x.lasts(3), 3);
        due("p21 one", x.lasts(2), 30);
        due("p21 no such", x.lasts(5), BEYOND);
        due("p21 no such", x.lasts(-1), BEYOND);
        x.day(0, 0);
        due("p21 sunk", x.lasts(4), NONE);
    }

    private static void promise22() {
        RaftTown x = new RaftTown();
        due("p22 n", x.feed(0, 5), BEYOND);
        due("p22 n", x.feed(9, 5), BEYOND);
        due("p22 n", x.feed(-1, 5), BEYOND);
        due("p22 one", x.feed(1, 't' | 'x' << 8), 1);
        due("p22 lowest first", x.feed(2, 'i' | 'e' << 8 | 'z' << 16), 3);
        due("p22 the rest", x.text(0), 3);
        for (int i = 1; i <= 19; i++) {
            due("p22 fed", x.feed(8, 0x2020202020202020L), 8 * i);
        }
        due("p22 fed", x.feed(7, 0x2020202020202020L), 159);
        due("p22 full", x.feed(2, 0x2020), FULL);
        due("p22 the last", x.feed(1, 0x20), 160);
        due("p22 full", x.feed(1, 0x20), FULL);
        due("p22 n ahead of full", x.feed(9, 0x20), BEYOND);
        due("p22 blanks alone end too early", x.text(0), 160);
        due("p22 empty then", x.feed(8, -1L), 8);
        due("p22 a byte of 255", x.text(0), 0);
    }

    private static void promise23() {
        RaftTown x = new RaftTown();
        write(x, "tie 1;");
        due("p23 no such", x.text(5), BEYOND);
        due("p23 no such", x.text(-1), BEYOND);
        write(x, "cut 1;speak 1;");
        due("p23 the tape stayed", x.text(4), -1);
        due("p23 the tape is empty", x.text(4), 0);
        String[] sound = {
            "tie1;cut1;speak1;",
            "  tie 1 ;  cut 1;speak 1;  ",
            "tie waves;cut load+strength-age;speak kin<heads;",
            "tie water=day;cut born;speak 9999;",
            "tie not 1<2;cut not not(1);speak (1)+(2)-((3));",
            "tie 1 or 2 and 3 or not 4;cut 1 and not 2;speak 0000;",
            "tie not(not(1));cut (not(not 1));speak not not not not 1;",
            "tie (((1)))+(((2))) or ((((3))));cut 1;speak 1;",
            "tie not not not 1 + (2);cut 1;speak 1;",
            "tie not not not not 1 or not not not not 2;cut 1;speak 1;",
            "tie not not((1)) + (2) < (3) and ((((4))));cut 1;speak 1;",
        };
        for (String text : sound) {
            due("p23 " + text, tell(x, 0, text), -1);
        }
        // Behind the bar is what can't stand there.
        String[] faults = {
            "|", "|1", "|cut 1;", "tie |;", "tie 1 |cut 1;", "tie 1;|tie 1;", "tie 1;cut 1;|cut 1;",
            "tie 1;cut 1;speak 1;|;", "tie 1;cut 1;speak 1; |tie", "tie 1;cut 1;speak 1|",
            "tie 1;cut 1;speak 1  |", "tie |x;", "tie |wave;", "tie |wavess;", "tie |tie;", "|tienot 1;",
            "tie |12345", "tie |12345;cut", "tie |00001;", "tie 1 |2;", "tie 1 |kin;", "tie 1|kin;",
            "tie (1|;", "tie (1 |", "tie |);", "tie (|)", "tie (|", "tie 1|);",
            "tie 1<2|<3;", "tie 1=2|=3;", "tie 1<2|=3;", "tie 1<|not 2;", "tie |-1;", "tie 1+|;", "tie 1+|+2;",
            "tie 1+|not 2;", "tie 1 or |;", "tie 1 and |and 2;", "tie not |;", "tie 1 |not 2;",
            "tie |*", "tie 1|\t;", "|Tie 1;", "tie 1|,2;", "tie 1;cut|;", "tie 1;cut 1;speak |;",
            "tie not not not not |not 1;", "tie ((((|(1)))));", "tie not(not(|(1)));",
            "tie not not(not|(1));", "tie not not not not |(1);", "tie ((not not |not 1))",
            "tie not not not 1 + (|(2))", "tie 1;cut 1;speak ((((1)+(2))))|", "tie ((((1))+(|x",
        };
        for (String marked : faults) {
            due("p23 " + marked, tell(x, 0, marked.replace("|", "")), marked.indexOf('|'));
        }
        x.raft(1, 0, 9, 9);
        tell(x, 2, "tie 1;cut 1;speak 1;");
        due("p23 stays with a fault", tell(x, 2, "tie 1;cut"), 9);
        due("p23 it is told", x.force(2, 0), 0);
        due("p23 never told with a fault alone", tell(x, 3, "tie"), 3);
        due("p23 never told", x.force(3, 0), NONE);
    }

    private static void promise24() {
        RaftTown x = withRafts(3, 1);
        x.raft(1, 14, 1, 9);
        x.tie(0, 0, 1, 0, 50);
        due("p24 never told", x.force(0, 0), NONE);
        tell(x, 0, "tie 1;cut 1;speak 1;");
        due("p24 no such text", x.force(5, 0), BEYOND);
        due("p24 no such text", x.force(-1, 0), BEYOND);
        due("p24 no such raft", x.force(0, 4), BEYOND);
        due("p24 beyond ahead of never told", x.force(1, 4), BEYOND);
        due("p24 first", x.force(0, 1), 0);
        due("p24 event", x.event(1, 0), 6);
        due("p24 event's number", x.event(1, 1), 0);
        due("p24 event is known", x.event(1, 3), 3);
        x.day(0, 0);
        due("p24 sunk", x.force(0, 3), NONE);
        for (int l = 1; l < 12; l++) {
            due("p24 number", x.force(0, 2), l);
        }
        due("p24 the latest", x.law(2), 11);
        due("p24 full", x.force(0, 2), FULL);
        due("p24 none ahead of full", x.force(1, 2), NONE);
    }

    private static void promise25() {
        RaftTown x = withRafts(4, 1);
        x.raft(1, 14, 1, 9);
        tell(x, 0, "tie 1;cut 1;speak 1;");
        due("p25 none", x.law(0), NONE);
        x.force(0, 0);
        x.force(0, 1);
        x.force(0, 4);
        due("p25 own", x.law(0), 0);
        x.tie(1, 0, 2, 0, 50);
        due("p25 told", x.law(2), 1);
        x.tie(0, 0, 1, 1, 50);
        due("p25 the latest", x.law(0), 1);
        x.cut(1);
        due("p25 still known", x.law(0), 1);
        x.tie(0, 1, 3, 0, 50);
        due("p25 told on", x.law(3), 1);
        due("p25 no such", x.law(5), BEYOND);
        due("p25 no such", x.law(-1), BEYOND);
        x.day(0, 0);
        due("p25 sunk", x.law(4), NONE);
    }

    private static void promise26() {
        RaftTown x = withRafts(4, 1);
        x.tie(0, 0, 1, 0, 60);
        x.tie(1, 1, 2, 0, 60);
        x.person(0, -10, -1, -1);
        x.person(0, -20, -1, -1);
        x.person(1, -30, 0, 1);
        x.person(1, -40, 0, -1);
        x.person(2, -50, 2, 3);
        x.wed(1, 3);
        x.load(0, 9, false);
        x.load(2, 8, false);
        x.load(3, 7, false);
        x.load(0, 2, true);
        due("p26 no law", x.may(0, 0), NONE);
        String[] names = {"waves", "load", "strength", "age", "kin", "heads", "water", "day", "born"};
        // Day 2, behind one of rain 1. Those on float 0 drank 4 of its 9 + 2; those on float 1 took of
        // float 2 on the second day, which had most then.
        x.day(0, 1);
        x.day(0, 0);
        x.force(0, 0);
        int weight0 = x.raftIs(0, 6);
        int water = x.raftIs(0, 4) + x.raftIs(1, 4) + x.raftIs(2, 4);
        due("p26 water", water, 17 + 6 - 10);
        due("p26 weight", weight0, 9 + (9 + 2 - 4) + 2 + 4);
        int[] values = {20, 20 * weight0 / 8, 60 - 2, 2, 4, 5, water, 2, 0};
        for (int i = 0; i < names.length; i++) {
            tell(x, 0, "tie 0;cut " + names[i] + ";speak 0;");
            if (i == 0) {
                x.force(0, 0);
            }
            due("p26 " + names[i], x.may(0, 20), values[i]);
        }
        String[] sums = {"1+2-4", "2<3", "3<3", "3=3", "3=4", "not 0", "not 7", "2 and 3", "2 and 0", "0 or 5",
            "0 or 0", "7", "1 or 0 and 0", "(1 or 0) and 0", "not 1<2", "not 1 or 1", "1+1<1+2", "9-3-2",
            "9-(3-2)", "not not 5", "0-9999-9999", "1+(2<3)+(4=4)", "not (1 and 1)+1", "0005"};
        int[] come = {-1, 1, 0, 1, 0, 1, 0, 1, 0, 1, 0, 7, 1, 0, 0, 1, 1, 4, 8, 1, -19998, 3, 0, 5};
        for (int i = 0; i < sums.length; i++) {
            due("p26 sound " + sums[i], tell(x, 0, "tie 0;cut " + sums[i] + ";speak 0;"), -1);
            due("p26 " + sums[i], x.may(0, 20), come[i]);
        }
        due("p26 no such", x.may(2, 0), BEYOND);
        due("p26 no such", x.may(-1, 0), BEYOND);
        due("p26 waves", x.may(0, 21), BEYOND);
        due("p26 waves", x.may(0, -1), BEYOND);
        x.cut(0);
        due("p26 no more", x.may(0, 0), NONE);
        due("p26 the other part knows", x.may(1, 0), 5);
    }

    private static void promise27() {
        RaftTown x = withRafts(5, 1);
        x.raft(1, 14, 1, 9);
        x.tie(0, 0, 1, 0, 60);
        x.person(0, -10, -1, -1);
        x.person(1, -20, -1, -1);
        x.person(2, -30, 0, 1);
        x.person(2, -30, 0, -1);
        x.load(1, 9, false);
        x.load(2, 5, false);
        x.load(3, 3, false);
        tell(x, 1, "tie heads+100;cut 1;speak 1;");
        due("p27 no law", x.must(0, 2), NONE);
        x.force(1, 0);
        due("p27 both parts", x.must(0, 2), 104);
        due("p27 one part", x.must(0, 1), 102);
        due("p27 the first one's law", x.must(2, 0), NONE);
        tell(x, 1, "tie water+kin+kin+waves+load+strength+age+born;cut 1;speak 1;");
        due("p27 water 14, kin of 0 and 2 alone: 2", x.must(0, 2), 18);
        due("p27 kin of 1 and 2: 1", x.must(1, 2), 16);
        due("p27 one part", x.must(1, 0), 9);
        tell(x, 1, "tie day;cut 1;speak 1;");
        x.day(0, 0);
        due("p27 day", x.must(0, 4), 1);
        due("p27 one", x.must(0, 0), SIZE);
        due("p27 no such", x.must(0, 6), BEYOND);
        due("p27 no such", x.must(-1, 0), BEYOND);
        due("p27 sunk", x.must(0, 5), NONE);
        due("p27 sunk", x.must(5, 0), NONE);
        due("p27 one ahead of sunk", x.must(5, 5), SIZE);
    }

    private static void promise28() {
        RaftTown x = withRafts(4, 1);
        x.raft(1, 14, 1, 9);
        x.tie(0, 0, 1, 0, 60);
        tell(x, 0, "tie 1;cut 1;speak 0-born;");
        x.person(2, -9000, -1, -1);
        due("p28 no law", x.speaks(0), NONE);
        x.force(0, 0);
        x.force(0, 3);
        due("p28 nobody", x.speaks(0), NONE);
        x.person(0, -10, -1, -1);
        x.person(1, -30, 1, -1);
        x.person(1, -30, 0, 1);
        due("p28 the eldest, of several the least", x.speaks(0), 2);
        tell(x, 0, "tie 1;cut 1;speak born;");
        due("p28 the youngest", x.speaks(1), 1);
        tell(x, 0, "tie 1;cut 1;speak kin;");
        due("p28 kin in its part", x.speaks(1), 1);
        tell(x, 0, "tie 1;cut 1;speak 0-kin;");
        due("p28 fewest kin", x.speaks(1), 1);
        x.wed(0, 2);
        due("p28 kin elsewhere don't count", x.speaks(1), 1);
        tell(x, 0, "tie 1;cut 1;speak 0-9999+born+waves+load+strength+age;");
        due("p28 below 0", x.speaks(0), 1);
        tell(x, 0, "tie 1;cut 1;speak heads=3 and water=7 and day=0 and born=0-30;");
        x.load(0, 7, false);
        due("p28 the rest of its part", x.speaks(0), 2);
        due("p28 nobody", x.speaks(3), NONE);
        due("p28 no law", x.speaks(2), NONE);
        due("p28 no such", x.speaks(5), BEYOND);
        due("p28 no such", x.speaks(-1), BEYOND);
        x.day(0, 0);
        due("p28 sunk", x.speaks(4), NONE);
    }

    private static void promises29And30() {
        RaftTown x = withRafts(4, 1);
        x.tie(0, 0, 1, 0, 50);
        x.tie(2, 0, 3, 0, 50);
        x.cut(0);
        due("p29 led", x.events(-1), 3);
        due("p29 known", x.events(0), 2);
        due("p29 known", x.events(1), 2);
        due("p29 known", x.events(3), 1);
        x.tie(0, 0, 2, 1, 50);
        due("p29 told on", x.events(3), 4);
        due("p29 told back", x.events(0), 4);
        due("p29 not told", x.events(1), 2);
        due("p30 who knows", x.event(1, 3), 1 | 4 | 8);
        due("p30 who knows", x.event(0, 3), 15);
        due("p30 the laying", x.event(3, 3), 1 | 4 | 8);
        due("p30 what", x.event(2, 0), 2);
        due("p30 the number", x.event(1, 1), 1);
        due("p30 the number", x.event(3, 1), 0);
        due("p30 day", x.event(3, 2), 0);
        due("p30 i", x.event(4, 0), BEYOND);
        due("p30 i", x.event(-1, 0), BEYOND);
        due("p30 what", x.event(0, 4), BEYOND);
        due("p30 what", x.event(0, -1), BEYOND);
        due("p29 no such", x.events(4), BEYOND);
        due("p29 no such", x.events(-2), BEYOND);
        due("p29 a new float knows nothing", x.events(x.raft(1, 14, 9, 9)), 0);
    }

    private static void eventsThatAreLedNoMore() {
        RaftTown x = withRafts(3, 1);
        tell(x, 0, "tie 1;cut 1;speak 1;");
        x.force(0, 0);
        x.day(0, 0);
        for (int i = 0; i < 20; i++) {
            x.tie(1, 0, 2, 0, 50);
            x.cut(0);
        }
        due("p29 forty", x.events(-1), 40);
        due("p29 the law's event is gone", x.events(0), 0);
        due("p30 the first that is led", x.event(0, 0), 1);
        due("p30 its day", x.event(0, 2), 1);
        due("p30 the last", x.event(39, 0), 2);
        due("p30 no more", x.event(40, 0), BEYOND);
        due("p29 the law stays known", x.law(0), 0);
        x.tie(0, 0, 1, 0, 50);
        due("p29 and is told on", x.law(1), 0);
        due("p29 forty", x.events(-1), 40);
        due("p30 the first is a later one", x.event(0, 0), 2);
        due("p30 the last", x.event(39, 3), 3);
    }

    private static void promise31() {
        RaftTown x = withRafts(4, 1);
        x.raft(1, 14, 1, 9);
        due("p31 alone", x.lash(0, 20), 0);
        x.tie(0, 0, 1, 0, 12);
        x.tie(1, 1, 2, 0, 12);
        x.tie(0, 1, 2, 1, 12);
        due("p31 two of three, the least", x.lash(1, 10), 3);
        due("p31 waves 11: 9 by 11 by 8 is 12", x.lash(1, 11), 3);
        due("p31 waves 12: the ring alone holds", x.lash(1, 12), 7);
        due("p31 waves 20: 4 by 20 by 8 is 10", x.lash(1, 20), 7);
        x.load(0, 20, true);
        // Float 0 weighs 29, with 1 or 2: 38 against 9.
        due("p31 0 at an end, or between", x.lash(0, 11), 5);
        x.tie(2, 2, 3, 0, 5);
        due("p31 3 hangs by 9: none at 11", x.lash(0, 11), NONE);
        due("p31 and what it loads on the others", x.lash(0, 5), 5 | 8);
        due("p31 no such", x.lash(5, 0), BEYOND);
        due("p31 waves", x.lash(0, 21), BEYOND);
        due("p31 waves", x.lash(0, -1), BEYOND);
        x.day(0, 0);
        due("p31 sunk", x.lash(4, 0), NONE);
    }

    private static void promise32() {
        RaftTown x = withRafts(4, 1);
        due("p32 no ropes", x.storm(20, false), 0);
        x.tie(0, 0, 1, 0, 5);
        x.tie(1, 1, 2, 0, 5);
        x.tie(2, 1, 3, 0, 5);
        due("p32 the middle one parts anyhow", x.storm(5, false), 0);
        due("p32 one is lost", x.storm(5, true), 1);
        due("p32 waves", x.storm(21, false), BEYOND);
        due("p32 waves", x.storm(-1, true), BEYOND);
        // A chain of which the weakest parts first, and not where it would help most:
        // floats 9, 9, 9, 9; ropes 17, 9, 17 under waves 8: loads 9, 18, 9.
        RaftTown y = withRafts(5, 1);
        y.tie(0, 0, 1, 0, 8);
        y.tie(1, 1, 2, 0, 17);
        y.tie(2, 1, 3, 0, 17);
        y.tie(3, 1, 4, 0, 9);
        // Loads 9, 18, 18, 9: rope 0 above by 1, 1 by 1, 2 by 1: 0 parts, then 1 and 3 bear 9, 2 bears 18.
        due("p32 as it comes", y.worst(8, -1), 2);
        due("p32 rope 0 parts whatever is cut", y.storm(8, true), 2);
        due("p32 so nothing needs to be cut", y.storm(8, false), 0);
        RaftTown z = withRafts(6, 1);
        z.tie(0, 0, 1, 0, 17);
        z.tie(1, 1, 2, 0, 17);
        z.tie(2, 1, 3, 0, 26);
        z.tie(3, 1, 4, 0, 17);
        z.tie(4, 1, 5, 0, 17);
        // Loads 9, 18, 27, 18, 9: all but the ends above by 1: 1 parts, then 9, -, 18, 18, 9: 3 parts.
        due("p32 two part", z.worst(8, -1), 2);
        due("p32 one cut is enough", z.storm(8, true), 1);
        due("p32 the middle one", z.storm(8, false), 4);
        due("p32 it is a plan alone", z.count(2), 5);
    }

    private static void promise33() {
        RaftTown x = withRafts(3, 1);
        x.tie(0, 0, 1, 0, 12);
        x.tie(1, 1, 2, 0, 12);
        x.tie(0, 1, 2, 1, 9);
        due("p33 missing", x.proves(3, 8, 0), MISSING);
        x.sheet(0, 8, 2);
        x.put(0, 0, 9);
        x.put(0, 1, 9);
        due("p33 it proves", x.proves(3, 8, 0), -1);
        due("p33 three are due", x.proves(7, 8, 0), 3);
        due("p33 one is due", x.proves(2, 8, 0), 1);
        due("p33 other waves", x.proves(3, 9, 0), 0);
        x.put(0, 1, 8);
        due("p33 the second is wrong", x.proves(3, 8, 0), 1);
        x.put(0, 0, 10);
        x.put(0, 1, 10);
        due("p33 waves 9 are 10", x.proves(3, 9, 0), -1);
        due("p33 above the strength", x.proves(5, 9, 0), 1);
        due("p33 above the strength", x.proves(6, 9, 0), 1);
        x.sheet(1, 32, 3);
        for (int i = 0; i < 3; i++) {
            x.put(1, i, 10);
        }
        due("p33 a ring bears 4 by 20 by 8; rope 2 has 9", x.proves(7, 20, 1), 2);
        x.put(1, 1, 11);
        due("p33 wrong ahead of that", x.proves(7, 20, 1), 1);
        due("p33 others", x.proves(8, 8, 0), BEYOND);
        due("p33 others", x.proves(-1, 8, 0), BEYOND);
        due("p33 others", x.proves(Integer.MIN_VALUE, 8, 0), BEYOND);
        due("p33 waves", x.proves(3, -1, 0), BEYOND);
        due("p33 waves", x.proves(3, 21, 0), BEYOND);
        due("p33 sheet", x.proves(3, 8, 4), BEYOND);
        due("p33 sheet", x.proves(3, 8, -1), BEYOND);
        x.cut(2);
        due("p33 no more is another", x.proves(4, 8, 0), BEYOND);
    }

    private static void promise34() {
        RaftTown x = new RaftTown();
        x.raft(1, 0, 50, 9);
        x.raft(4, 0, 50, 9);
        x.raft(1, 0, 1, 9);
        due("p34 still water", x.patch(0, 30), 1);
        x.stream(0, 1, 0);
        x.stream(1, 1, 0);
        x.stream(2, 1, 0);
        x.stream(7, 0, -1);
        // From 0: by 0 and 1 to 1; by 6 it stays. A sail adds nothing.
        due("p34 now", x.patch(0, 0), 1);
        due("p34 a day", x.patch(0, 1), 2);
        due("p34 a day with a sail", x.patch(1, 1), 2);
        // From 1: by 0, 1, 2 to 2; by 7 (off the sea) it stays.
        due("p34 two days", x.patch(0, 2), 3);
        x.stream(6, 1, 0);
        // Now 0 leads to 1 only: nothing beside it stays, but a sail may.
        due("p34 it must go", x.patch(0, 1), 1);
        due("p34 a sail may stay", x.patch(1, 1), 2);
        x.tie(0, 0, 1, 0, 50);
        due("p34 its part has a sail", x.patch(0, 1), 2);
        due("p34 no such", x.patch(3, 1), BEYOND);
        due("p34 n", x.patch(0, -1), BEYOND);
        due("p34 n", x.patch(0, 31), BEYOND);
        RaftTown y = new RaftTown();
        y.raft(1, 14, 50, 9);
        y.stream(7, 1, 1);
        due("p34 not next to it: both are different", y.patch(0, 1), 1);
        y.stream(8, 1, 1);
        due("p34 next to it", y.patch(0, 1), 2);
        x.stream(0, 0, 0);
        x.day(0, 0);
        due("p34 sunk", x.patch(2, 1), NONE);
        due("p34 beyond ahead of sunk", x.patch(2, 31), BEYOND);
    }

    private static void promise35() {
        RaftTown x = new RaftTown();
        x.raft(4, 0, 50, 9);
        x.raft(1, 3, 50, 9);
        x.raft(1, 0, 1, 9);
        x.raft(1, 14, 50, 9);
        due("p35 there", x.tow(0, 2), 0);
        due("p35 itself", x.tow(0, 0), 0);
        due("p35 three beside", x.tow(0, 1), 3);
        due("p35 no sail", x.tow(1, 0), NONE);
        due("p35 x and y", x.tow(0, 3), 4);
        for (int c = 0; c < 5; c++) {
            x.stream(c, 1, 0);
        }
        // Both go right; at 5 the other stays, and the sail gains one a day: 0 to 2, 4, 5; 3, 4, 5, 5.
        due("p35 both go", x.tow(0, 1), 3);
        due("p35 by the stream alone", x.tow(2, 1), 5);
        x.stream(5, -1, 0);
        // 4 and 5 by turns for the other: 3, 4, 5, 4, 5, ..; without a sail 0, 1, 2, 3, 4, 5, 4: never at one.
        due("p35 they never meet", x.tow(2, 1), NONE);
        due("p35 with a sail", x.tow(0, 1), 3);
        due("p35 no such", x.tow(0, 4), BEYOND);
        due("p35 no such", x.tow(-1, 0), BEYOND);
        x.tie(0, 0, 2, 0, 9);
        due("p35 its part has a sail", x.tow(2, 1), 3);
        x.day(0, 0);
        due("p35 sunk", x.tow(2, 1), NONE);
        due("p35 sunk", x.tow(1, 2), NONE);
        due("p35 sunk itself", x.tow(2, 2), NONE);
    }

    private static void promise36() {
        RaftTown x = new RaftTown();
        due("p36 eight", x.sheet(0, 8, 20), 20);
        due("p36 sixteen", x.sheet(3, 16, 0), 0);
        due("p36 thirty-two", x.sheet(1, 32, 5), 5);
        due("p36 no such sheet", x.sheet(4, 8, 1), BEYOND);
        due("p36 no such sheet", x.sheet(-1, 8, 1), BEYOND);
        due("p36 bits", x.sheet(0, 7, 1), BEYOND);
        due("p36 bits", x.sheet(0, 64, 1), BEYOND);
        due("p36 bits", x.sheet(0, -8, 1), BEYOND);
        due("p36 bits ahead of size", x.sheet(0, 9, -1), BEYOND);
        due("p36 size", x.sheet(0, 8, -1), SIZE);
        due("p36 size", x.sheet(0, 8, Integer.MIN_VALUE), SIZE);
        due("p36 above", x.sheet(0, 8, 21), BEYOND);
        due("p36 n is asked all the same", x.sheet(0, 0, -1), SIZE);
        due("p36 n is asked all the same", x.sheet(0, 0, 21), BEYOND);
        due("p36 it stayed", x.put(0, 19, 1), 0);
        due("p36 it goes", x.sheet(0, 0, 5), 0);
        due("p36 it is missing", x.put(0, 0, 1), MISSING);
        x.raft(1, 0, 9, 9);
        x.sheet(2, 8, 2);
        x.put(2, 1, 4);
        x.sheet(2, 8, 2);
        x.days(1, 2);
        due("p36 all 0 anew", x.raftIs(0, 4), 0);
    }

    private static void promise37() {
        RaftTown x = withRafts(3, 1);
        x.tie(0, 0, 1, 0, 99);
        x.sheet(0, 8, 1);
        x.sheet(1, 16, 1);
        x.sheet(2, 32, 1);
        due("p37 eight bits", x.put(0, 0, 9 + 256), 0);
        due("p37 the lowest bits", x.proves(1, 8, 0), -1);
        due("p37 below 0", x.put(0, 0, 9 - 256), 0);
        due("p37 the lowest bits", x.proves(1, 8, 0), -1);
        due("p37 sixteen bits", x.put(1, 0, 9 + 256), 0);
        due("p37 all of these count", x.proves(1, 8, 1), 0);
        due("p37 sixteen bits", x.put(1, 0, 9 + 65536), 0);
        due("p37 the lowest bits", x.proves(1, 8, 1), -1);
        due("p37 thirty-two bits", x.put(2, 0, 9 + 65536), 0);
        due("p37 all of these count", x.proves(1, 8, 2), 0);
        due("p37 thirty-two bits", x.put(2, 0, 9), 0);
        due("p37 plain", x.proves(1, 8, 2), -1);
        due("p37 no such sheet", x.put(4, 0, 1), BEYOND);
        due("p37 no such sheet", x.put(-1, 0, 1), BEYOND);
        due("p37 missing", x.put(3, 0, 1), MISSING);
        due("p37 missing ahead of the number", x.put(3, -1, 1), MISSING);
        due("p37 no such number", x.put(0, 1, 1), BEYOND);
        due("p37 no such number", x.put(0, -1, 1), BEYOND);
    }

    private static void promise38() {
        RaftTown x = withRafts(4, 1);
        x.tie(0, 0, 1, 0, 99);
        x.tie(1, 1, 2, 0, 99);
        x.tie(2, 1, 3, 0, 99);
        x.sheet(0, 8, 5);
        x.sheet(1, 8, 3);
        x.sheet(2, 16, 3);
        int[] row = {9, 18, 9, 7, 0};
        for (int i = 0; i < 5; i++) {
            x.put(0, i, row[i]);
        }
        due("p38 three", x.copy(0, 0, 1, 0, 3), 3);
        due("p38 they came", x.proves(7, 8, 1), -1);
        due("p38 one", x.copy(0, 3, 1, 2, 1), 1);
        due("p38 it came", x.proves(7, 8, 1), 2);
        due("p38 within one, onward", x.copy(0, 0, 0, 1, 3), 3);
        x.copy(0, 1, 1, 0, 3);
        due("p38 as they were", x.proves(7, 8, 1), -1);
        due("p38 within one, back", x.copy(0, 1, 0, 0, 4), 4);
        x.copy(0, 0, 1, 0, 3);
        due("p38 as they were", x.proves(7, 8, 1), -1);
        due("p38 nothing", x.copy(0, 5, 1, 3, 0), 0);
        due("p38 no such sheet", x.copy(4, 0, 0, 0, 1), BEYOND);
        due("p38 no such sheet", x.copy(0, 0, -1, 0, 1), BEYOND);
        due("p38 missing", x.copy(0, 0, 3, 0, 1), MISSING);
        due("p38 missing", x.copy(3, 0, 0, 0, 1), MISSING);
        due("p38 kind", x.copy(0, 0, 2, 0, 1), KIND);
        due("p38 kind ahead of places", x.copy(0, -1, 2, 0, 1), KIND);
        due("p38 from", x.copy(0, 3, 1, 0, 3), BEYOND);
        due("p38 from with nothing", x.copy(0, 6, 1, 0, 0), BEYOND);
        due("p38 to", x.copy(0, 0, 1, 1, 3), BEYOND);
        due("p38 below", x.copy(0, -1, 1, 0, 1), BEYOND);
        due("p38 below", x.copy(0, 0, 1, -1, 1), BEYOND);
        due("p38 below", x.copy(0, 0, 1, 0, -1), BEYOND);
        int much = Integer.MAX_VALUE;
        due("p38 far", x.copy(0, much, 1, much, much), BEYOND);
        due("p38 far", x.copy(0, 1, 1, 1, much), BEYOND);
        due("p38 far", x.copy(0, much, 1, 0, 1), BEYOND);
    }

    private static void promises39And40() {
        RaftTown x = withRafts(3, 1);
        due("p40 none", x.restore(), NONE);
        x.stream(14, 1, 0);
        x.tie(0, 0, 1, 0, 50);
        x.person(0, -5, -1, -1);
        x.load(0, 9, false);
        tell(x, 0, "tie 1;cut 7;speak 1;");
        x.force(0, 0);
        x.day(0, 0);
        due("p39 the day", x.image(), 1);
        x.stream(15, 1, 0);
        x.raft(2, 3, 9, 9);
        x.person(0, -6, 0, -1);
        x.wed(0, 1);
        tell(x, 0, "tie 1;cut 8;speak 1;");
        tell(x, 1, "tie 1;cut 9;speak 1;");
        x.force(1, 0);
        x.sheet(0, 8, 1);
        write(x, "tie");
        x.day(20, 3);
        x.cut(9);
        due("p40 the day", x.restore(), 1);
        due("p40 day", x.count(3), 1);
        due("p40 floats", x.count(0), 3);
        due("p40 persons", x.count(1), 1);
        due("p40 not wed", x.personIs(0, 2), -1);
        due("p40 ropes", x.count(2), 1);
        due("p40 strength", x.rope(0, 2), 50);
        due("p40 age", x.rope(0, 3), 1);
        due("p40 casks", x.count(4), 8);
        due("p40 drunk", x.count(5), 1);
        due("p40 cells", x.raftIs(0, 1), 15);
        due("p40 events", x.events(-1), 2);
        due("p40 law", x.law(0), 0);
        due("p40 text", x.may(0, 0), 7);
        due("p40 no such text", x.force(1, 0), NONE);
        due("p40 the sheet stays", x.put(0, 0, 1), 0);
        due("p40 the tape stays", x.feed(1, ' '), 4);
        due("p40 findings stay", x.count(7), 3);
        x.day(0, 0);
        due("p40 the streams of then", x.raftIs(0, 1), 15);
        due("p40 the image stays", x.restore(), 1);
        x.day(0, 0);
        x.day(0, 0);
        due("p39 the one before goes", x.image(), 3);
        x.day(0, 0);
        due("p40 the later one", x.restore(), 3);
        due("p40 the later one", x.count(3), 3);
    }

    private static void promise41() {
        RaftTown x = new RaftTown();
        x.raft(1, 0, 50, 20);
        x.raft(3, 0, 50, 20);
        x.raft(5, 0, 1, 20);
        x.person(0, 0, -1, -1);
        x.person(2, 0, -1, -1);
        x.load(0, 3, false);
        x.load(1, 3, false);
        x.load(2, 3, true);
        x.load(2, 2, false);
        x.tie(0, 0, 1, 0, 50);
        due("p41 casks", x.count(4), 11);
        x.day(0, 0);
        int[] counts = {2, 1, 1, 1, 4, 3, 4, 0};
        for (int what = 0; what < 8; what++) {
            due("p41 count " + what, x.count(what), counts[what]);
        }
        due("p41 no such", x.count(8), BEYOND);
        due("p41 this one, too", x.count(7), 1);
        due("p41 no such", x.count(-1), BEYOND);
        due("p41 no finding", x.count(7), 2);
        x.image();
        x.rope(7, 0);
        x.restore();
        due("p41 ever", x.count(7), 3);
        x.text(0);
        due("p41 a fault is no finding", x.count(7), 3);
    }

    public static void main(String[] args) {
        promise1();
        promise2();
        promise3();
        promise4();
        promise5();
        promise6();
        promise7();
        promise8();
        promise9();
        promise10();
        promise11();
        promise12();
        promise13();
        promise14();
        promise15();
        promises16And17();
        promise18();
        promise19();
        rainAndGardens();
        thirst();
        sinking();
        sinkingOneBehindTheOther();
        promise20();
        promise21();
        promise22();
        promise23();
        promise24();
        promise25();
        promise26();
        promise27();
        promise28();
        promises29And30();
        eventsThatAreLedNoMore();
        promise31();
        promise32();
        promise33();
        promise34();
        promise35();
        promise36();
        promise37();
        promise38();
        promises39And40();
        promise41();
        System.out.println(asked + " answers asked, " + wrong + " not as due");
        if (wrong != 0) {
            System.exit(1);
        }
    }
}
