/** The boundaries of promises 11 to 18, 'what is seen' and 'the log': a test for each sentence. */
public final class PaperRoomBoundsSeen {
    private static final int BAD = Bounds.BAD, STATE = Bounds.STATE;
    private static final int NO = Bounds.NO, NONE = Bounds.NONE;
    private static final int LOWEST = Bounds.LOWEST, HIGHEST = Bounds.HIGHEST;

    public static void main(String[] args) {
        Bounds.from("Promise 11");
        Bounds.sentence("Whether a BIDDER MAY see a PAPER: 1, 0", PaperRoomBoundsSeen::mayAnswer);
        Bounds.sentence("BAD", PaperRoomBoundsSeen::mayBad);
        Bounds.from("Promise 12");
        Bounds.sentence("A BIDDER reads a VIEW: how many bytes it has", PaperRoomBoundsSeen::readAnswer);
        Bounds.sentence("a VIEW that is read comes to THE LOG", PaperRoomBoundsSeen::readIsLogged);
        Bounds.sentence("BAD", PaperRoomBoundsSeen::readBad);
        Bounds.sentence("NO", PaperRoomBoundsSeen::readNo);
        Bounds.from("Promise 13");
        Bounds.sentence("Byte i of THE VIEW", PaperRoomBoundsSeen::atByte);
        Bounds.sentence("that a BIDDER read latest", PaperRoomBoundsSeen::atLatest);
        Bounds.sentence("as it was read", PaperRoomBoundsSeen::atAsItWasRead);
        Bounds.sentence("NONE: none such", PaperRoomBoundsSeen::atNone);
        Bounds.sentence("BAD: the BIDDER", PaperRoomBoundsSeen::atBad);
        Bounds.from("Promise 14");
        Bounds.sentence("THE DRAFT, which stays", PaperRoomBoundsSeen::searchKeepsDraft);
        Bounds.sentence("BAD", PaperRoomBoundsSeen::searchBad);
        Bounds.sentence("STATE: it is empty", PaperRoomBoundsSeen::searchForNothing);
        Bounds.sentence("STATE: or has more than 20", PaperRoomBoundsSeen::searchForMuch);
        Bounds.from("Promise 15");
        Bounds.sentence("as bits of BIDDERS", PaperRoomBoundsSeen::namedBits);
        Bounds.sentence("whether they MAY see it or not", PaperRoomBoundsSeen::namedWithoutRights);
        Bounds.sentence("NAMED by THE DRAFT of 1 .. 40 bytes", PaperRoomBoundsSeen::namedByLongDrafts);
        Bounds.sentence("NAMED changes nothing", PaperRoomBoundsSeen::namedKeepsAll);
        Bounds.sentence("BAD: no such PAPER or VERSION", PaperRoomBoundsSeen::namedBad);
        Bounds.sentence("BAD: also a PAPER that is not MARKED", PaperRoomBoundsSeen::namedNotMarked);
        Bounds.sentence("STATE: THE DRAFT is empty", PaperRoomBoundsSeen::namedByNothing);
        Bounds.from("Promise 16");
        Bounds.sentence("0 TICK, 1 BIDDER, 2 PAPER, 3 VERSION", PaperRoomBoundsSeen::logNumbers);
        Bounds.sentence("Of an entry it tells, and changes nothing", PaperRoomBoundsSeen::logKeepsAll);
        Bounds.sentence("BAD: no such entry", PaperRoomBoundsSeen::logBadEntry);
        Bounds.sentence("BAD: no such number of an entry", PaperRoomBoundsSeen::logBadWhat);
        Bounds.from("Promise 17");
        Bounds.sentence("ITS CHAIN, of the first to the last entry", PaperRoomBoundsSeen::chainOfEach);
        Bounds.sentence("0: BAD, too", PaperRoomBoundsSeen::chainBad);
        Bounds.from("Promise 18");
        Bounds.sentence("How often a BIDDER read a VERSION", PaperRoomBoundsSeen::timesAnswer);
        Bounds.sentence("by THE LOG", PaperRoomBoundsSeen::timesByTheLog);
        Bounds.sentence("BAD", PaperRoomBoundsSeen::timesBad);
        Bounds.end();
    }

    // ---- promise 11

    private static void mayAnswer() {
        Room room = new Room().open();
        for (int paper = 0; paper < 8; paper++) {
            room.add(paper % 3, paper % 4, 0, "x");
        }
        for (int bidder = 0; bidder < 6; bidder++) {
            for (int paper = 0; paper < 8; paper++) {
                Bounds.is(room.may(bidder, paper), 1);
            }
        }
        for (int group = 0; group < 3; group++) {
            room.rights(group, 2, 0, 0);
        }
        for (int bidder = 0; bidder < 6; bidder++) {
            for (int paper = 0; paper < 8; paper++) {
                Bounds.is(room.may(bidder, paper), paper % 4 == 2 ? 0 : 1);
            }
        }
        Bounds.is(room.count(3), 0);
        Bounds.is(room.at(0, 0), NONE);
    }

    private static void mayBad() {
        Bounds.badOutside(Scenes::busy, 0, 5, (r, bidder) -> r.may(bidder, 2));
        Bounds.badOutside(Scenes::busy, 0, 5, (r, bidder) -> r.may(bidder, 4));
        Bounds.badOutside(Scenes::busy, 0, 3, (r, paper) -> r.may(0, paper));
        Bounds.badOutside(Scenes::fullOfPapers, 0, 7, (r, paper) -> r.may(5, paper));
        Bounds.changesNothing(Scenes::fresh, r -> r.may(0, 0), BAD);
    }

    // ---- promise 12

    private static void readAnswer() {
        Room room = new Room().open();
        for (int kind = 0; kind < 3; kind++) {
            room.add(kind, 0, 0, "x");
            room.revise(kind, Scenes.FORTY);
            room.revise(kind, "a b c d");
            room.revise(kind, " ".repeat(40));
        }
        int[] marked = {7, 8, 8, 9, 8, 9};
        int[] longest = {40, 54, 53, 67, 53, 67};
        for (int bidder = 0; bidder < 6; bidder++) {
            for (int kind = 0; kind < 3; kind++) {
                Bounds.is(room.read(bidder, kind, 0), 1);
                Bounds.is(room.read(bidder, kind, 1), 40);
                Bounds.is(room.read(bidder, kind, 2), kind == 2 ? marked[bidder] : 7);
                Bounds.is(room.read(bidder, kind, 3), kind == 2 ? longest[bidder] : 40);
            }
        }
    }

    private static void readIsLogged() {
        Room room = new Room().open();
        room.add(0, 0, 0, "x");
        for (int i = 0; i < 200; i++) {
            Bounds.is(room.count(3), i);
            Bounds.is(room.read(0, 0, 0), 1);
        }
        Bounds.is(room.count(3), 200);
        Bounds.is(room.count(4), 0);
    }

    private static void readBad() {
        Bounds.badOutside(Scenes::busy, 0, 5, (r, bidder) -> r.read(bidder, 2, 0));
        Bounds.badOutside(Scenes::busy, 0, 3, (r, paper) -> r.read(0, paper, 0));
        Bounds.badOutside(Scenes::fullOfPapers, 0, 7, (r, paper) -> r.read(0, paper, 0));
        Bounds.badOutside(Scenes::busy, 0, 1, (r, version) -> r.read(0, 0, version));
        Bounds.badOutside(Scenes::busy, 0, 1, (r, version) -> r.read(0, 2, version));
        Bounds.badOutside(Scenes::fullOfVersions, 0, 3, (r, version) -> r.read(0, 2, version));
        Bounds.badOutside(Scenes::fullOfEntries, 0, 0, (r, version) -> r.read(0, 1, version));
        Bounds.changesNothing(Scenes::fresh, r -> r.read(0, 0, 0), BAD);
    }

    private static void readNo() {
        Bounds.changesNothing(Scenes::busy, r -> r.read(2, 0, 0), NO);
        Bounds.changesNothing(Scenes::busy, r -> r.read(5, 0, 1), NO);
        Bounds.changesNothing(Scenes::busy, r -> r.read(0, 1, 0), NO);
        Bounds.changesNothing(Scenes::busy, r -> r.read(1, 3, 0), NO);
        Bounds.changesNothing(Scenes::fullOfEntries, r -> r.read(1, 2, 0), NO);
        Room room = new Room();
        Scenes.busy(room);
        Bounds.is(room.read(5, 0, 1), NO);
        Bounds.isText(room.view(5), "e  f");
        Bounds.is(room.read(2, 0, 0), NO);
        Bounds.isText(room.view(2), "");
        Bounds.is(room.count(3), 3);
        Bounds.is(room.times(5, 0, 1), 0);
    }

    // ---- promise 13

    private static void atByte() {
        Room room = new Room().open();
        room.add(0, 0, 0, "x");
        room.revise(0, Scenes.FORTY);
        room.read(0, 0, 1);
        for (int i = 0; i < 40; i++) {
            Bounds.is(room.at(0, i), Scenes.FORTY.charAt(i));
        }
        Bounds.is(room.at(0, 40), NONE);
        room.read(0, 0, 0);
        Bounds.is(room.at(0, 0), 'x');
        Bounds.is(room.at(0, 1), NONE);
        room.add(0, 0, 0, " ~");
        room.read(0, 1, 0);
        Bounds.is(room.at(0, 0), 32);
        Bounds.is(room.at(0, 1), 126);
    }

    private static void atLatest() {
        Room room = new Room().open();
        room.add(0, 0, 0, "long text");
        room.add(2, 0, 0, "a b");
        for (int bidder = 0; bidder < 6; bidder++) {
            room.read(bidder, 0, 0);
            room.read(bidder, 1, 0);
        }
        room.read(4, 0, 0);
        for (int bidder = 0; bidder < 6; bidder++) {
            Bounds.isText(room.view(bidder), bidder == 4 ? "long text" : bidder % 2 == 1 ? "a  b" : "a b");
        }
    }

    private static void atAsItWasRead() {
        Room room = new Room().open();
        room.add(2, 0, 0, "a b");
        room.read(1, 0, 0);
        room.blacken(0, 0, 0, 3);
        Bounds.isText(room.view(1), "a  b");
        room.revise(0, "later");
        room.read(2, 0, 1);
        Bounds.isText(room.view(1), "a  b");
        Bounds.is(room.name(0, 0, "###"), 63);
        Bounds.is(room.find(1, "later"), 1);
        Bounds.isText(room.view(1), "a  b");
        room.rights(1, 0, 0, 0);
        room.tick(1000);
        room.withdraw(0);
        Bounds.is(room.read(1, 0, 0), NO);
        Bounds.is(room.read(1, 0, 2), BAD);
        Bounds.isText(room.view(1), "a  b");
    }

    private static void atNone() {
        for (int bidder = 0; bidder < 6; bidder++) {
            int reader = bidder;
            for (int i : new int[] {LOWEST, -256, -1, 80, 256, HIGHEST}) {
                Bounds.changesNothing(Scenes::busy, r -> r.at(reader, i), NONE);
            }
        }
        Bounds.changesNothing(Scenes::busy, r -> r.at(0, 11), 't');
        Bounds.changesNothing(Scenes::busy, r -> r.at(0, 12), NONE);
        Bounds.changesNothing(Scenes::busy, r -> r.at(1, 7), 'd');
        Bounds.changesNothing(Scenes::busy, r -> r.at(1, 8), NONE);
        Bounds.changesNothing(Scenes::busy, r -> r.at(2, 0), NONE);
        Bounds.changesNothing(Scenes::fresh, r -> r.at(0, 0), NONE);
    }

    private static void atBad() {
        Bounds.badOutside(Scenes::busy, 0, 5, (r, bidder) -> r.at(bidder, 0));
        Bounds.badOutside(Scenes::busy, 0, 5, (r, bidder) -> r.at(bidder, -1));
        Bounds.badOutside(Scenes::fresh, 0, 5, (r, bidder) -> r.at(bidder, 99));
    }

    // ---- promise 14

    private static void searchKeepsDraft() {
        for (int bidder = 0; bidder < 6; bidder++) {
            int seeker = bidder;
            Bounds.changesNothing(Scenes::busy, r -> r.search(seeker), 0);
        }
        for (int bidder = 0; bidder < 6; bidder++) {
            int seeker = bidder;
            Bounds.changesNothing(r -> {
                Scenes.busy(r);
                r.rewrite("a");
            }, r -> r.search(seeker), bidder % 3 == 2 ? 0 : 1);
        }
        Room room = new Room();
        Scenes.busy(room);
        room.search(0);
        Bounds.is(room.count(2), 5);
        Bounds.is(room.version(0), 2);
        Bounds.sees(room, 0, 0, 2, "draft");
    }

    private static void searchBad() {
        Bounds.badOutside(Scenes::busy, 0, 5, Room::search);
        Bounds.badOutside(Scenes::fresh, 0, 5, Room::search);
        Bounds.badOutside(r -> Scenes.draftOf(r, 40), 0, 5, Room::search);
    }

    private static void searchForNothing() {
        for (int bidder = 0; bidder < 6; bidder++) {
            int seeker = bidder;
            Bounds.changesNothing(Scenes::fresh, r -> r.search(seeker), STATE);
            Bounds.changesNothing(Scenes::busyWithoutDraft, r -> r.search(seeker), STATE);
        }
    }

    private static void searchForMuch() {
        Room room = new Room().open();
        room.write(Scenes.FORTY);
        room.paper(0, 0, 0);
        Bounds.is(room.find(0, Scenes.FORTY.substring(10, 30)), 1);
        Bounds.is(room.type(Scenes.FORTY.charAt(30), 1), 21);
        Bounds.is(room.search(0), STATE);
        Bounds.is(room.count(2), 21);
        for (int bytes : new int[] {21, 39, 40}) {
            Bounds.changesNothing(r -> Scenes.draftOf(r, bytes), r -> r.search(3), STATE);
        }
        Bounds.changesNothing(r -> Scenes.draftOf(r, 20), r -> r.search(3), 0);
    }

    // ---- promise 15

    private static void namedBits() {
        Room room = new Room().open();
        room.add(2, 0, 0, " a b c");
        String[] views = {" a b c", "  a b c", " a  b c", "  a  b c", " a b  c", "  a b  c"};
        for (int bidder = 0; bidder < 6; bidder++) {
            Bounds.is(room.name(0, 0, views[bidder]), 1 << bidder);
        }
        Bounds.is(room.name(0, 0, " "), 63);
        Bounds.is(room.name(0, 0, "  "), 42);
        Bounds.is(room.name(0, 0, " a "), 21);
        Bounds.is(room.name(0, 0, " a  "), 4);
        Bounds.is(room.name(0, 0, "a"), 0);
    }

    private static void namedWithoutRights() {
        Room room = new Room();
        room.add(2, 0, 0, "a b");
        Bounds.is(room.name(0, 0, "a  "), 42);
        room.rights(1, 0, 0, 9);
        Bounds.is(room.named(0, 0), 42);
        room.withdraw(0);
        Bounds.is(room.named(0, 0), 42);
        room.tick(1000);
        Bounds.is(room.named(0, 0), 42);
    }

    private static void namedByLongDrafts() {
        Room room = new Room();
        room.write(Scenes.FORTY);
        room.paper(2, 0, 0);
        for (int bytes = 1; bytes <= 40; bytes++) {
            Bounds.is(room.name(0, 0, Scenes.FORTY.substring(0, bytes)), 63);
        }
        Bounds.is(room.name(0, 0, Scenes.FORTY.substring(0, 39) + "z"), 0);
        room.revise(0, "ab");
        Bounds.is(room.name(0, 1, "ab"), 63);
        Bounds.is(room.name(0, 1, "abc"), 0);
        Bounds.is(room.name(0, 1, Scenes.FORTY), 0);
        room.blacken(0, 1, 1, 2);
        Bounds.is(room.name(0, 1, "a#"), 63);
        Bounds.is(room.name(0, 1, "ab"), 0);
        Bounds.is(room.name(0, 0, "ab"), 63);
    }

    private static void namedKeepsAll() {
        Bounds.changesNothing(Scenes::busy, r -> r.named(2, 0), 0);
        Bounds.changesNothing(r -> {
            Scenes.busy(r);
            r.rewrite("a  b");
        }, r -> r.named(2, 0), 42);
        Bounds.changesNothing(r -> Scenes.draftOf(r, 40), r -> r.named(2, 1), 0);
    }

    private static void namedBad() {
        Bounds.badOutside(Scenes::busy, 0, 3, (r, paper) -> r.named(paper, 0));
        Bounds.badOutside(Scenes::fullOfPapers, 0, 7, (r, paper) -> r.named(paper, 0));
        Bounds.badOutside(Scenes::busy, 0, 1, (r, version) -> r.named(2, version));
        Bounds.badOutside(Scenes::fullOfVersions, 0, 3, (r, version) -> r.named(2, version));
        Bounds.badOutside(Scenes::busyWithoutDraft, 0, 1, (r, version) -> r.named(2, version));
        Bounds.changesNothing(Scenes::fresh, r -> r.named(0, 0), BAD);
    }

    private static void namedNotMarked() {
        Bounds.changesNothing(Scenes::busy, r -> r.named(0, 0), BAD);
        Bounds.changesNothing(Scenes::busy, r -> r.named(0, 1), BAD);
        Bounds.changesNothing(Scenes::busy, r -> r.named(1, 0), BAD);
        Bounds.changesNothing(Scenes::busy, r -> r.named(3, 0), BAD);
        Bounds.changesNothing(Scenes::busyWithoutDraft, r -> r.named(1, 0), BAD);
    }

    private static void namedByNothing() {
        Bounds.changesNothing(Scenes::busyWithoutDraft, r -> r.named(2, 0), STATE);
        Bounds.changesNothing(Scenes::busyWithoutDraft, r -> r.named(2, 1), STATE);
    }

    // ---- promise 16

    /** 200 entries, all different in tick, bidder, paper and version as far as there are such. */
    private static Room manyEntries() {
        Room room = new Room().open();
        for (int paper = 0; paper < 8; paper++) {
            room.add(paper % 3, 0, 0, "x");
        }
        for (int version = 1; version < 4; version++) {
            room.revise(7, "y");
        }
        for (int i = 0; i < 200; i++) {
            if (i % 40 == 39) {
                room.tick(1 + i);
            }
            room.read(i % 6, paperOf(i), versionOf(i));
        }
        return room;
    }

    private static int tickOf(int i) {
        int tick = 0;
        for (int j = 39; j <= i; j += 40) {
            tick += 1 + j;
        }
        return tick;
    }

    private static int paperOf(int i) {
        return i % 2 == 0 ? 7 : i / 2 % 8;
    }

    private static int versionOf(int i) {
        return paperOf(i) == 7 ? i / 4 % 4 : 0;
    }

    private static void logNumbers() {
        for (int part = 0; part < 4; part++) {
            Room room = manyEntries();
            for (int i = 50 * part; i < 50 * part + 50; i++) {
                Bounds.is(room.log(i, 0), tickOf(i));
                Bounds.is(room.log(i, 1), i % 6);
                Bounds.is(room.log(i, 2), paperOf(i));
                Bounds.is(room.log(i, 3), versionOf(i));
            }
        }
    }

    private static void logBadEntry() {
        for (int what = 0; what < 4; what++) {
            int number = what;
            Bounds.changesNothing(Scenes::fresh, r -> r.log(0, number), BAD);
            Bounds.badOutside(Scenes::busy, 0, 2, (r, i) -> r.log(i, number));
            Bounds.badOutside(Scenes::fullOfEntries, 0, 199, (r, i) -> r.log(i, number));
            Bounds.changesNothing(r -> {
                Scenes.fullOfEntries(r);
                r.readTimes(3, 0, 0, 0);
            }, r -> r.log(200, number), BAD);
        }
    }

    private static void logKeepsAll() {
        int[][] told = {{3, 0, 0, 0}, {3, 1, 2, 0}, {3, 5, 2, 1}};
        for (int i = 0; i < 12; i++) {
            int entry = i / 4, what = i % 4;
            Bounds.changesNothing(Scenes::busy, r -> r.log(entry, what), told[entry][what]);
        }
        Bounds.changesNothing(Scenes::fullOfEntries, r -> r.log(199, 1), 1);
    }

    private static void logBadWhat() {
        Bounds.badOutside(Scenes::busy, 0, 3, (r, what) -> r.log(0, what));
        Bounds.badOutside(Scenes::busy, 0, 3, (r, what) -> r.log(2, what));
        Bounds.badOutside(Scenes::busy, 0, 3, (r, what) -> r.log(3, what));
        Bounds.badOutside(Scenes::fullOfEntries, 0, 3, (r, what) -> r.log(199, what));
    }

    // ---- promise 17

    private static void chainOfEach() {
        Room room = manyEntries();
        long want = 7;
        for (int i = 0; i < 200; i++) {
            want = 31 * want + 1000L * tickOf(i) + 100L * (i % 6) + 10L * paperOf(i) + versionOf(i);
            Bounds.is(room.chain(i), want);
        }
        room.readTimes(5, 0, 0, 0);
        Bounds.is(room.chain(199), want);
    }

    private static void chainBad() {
        for (int i : Bounds.outside(0, 2)) {
            Bounds.changesNothing(Scenes::busy, r -> r.chain(i), 0);
        }
        for (int i : Bounds.outside(0, 199)) {
            Bounds.changesNothing(Scenes::fullOfEntries, r -> r.chain(i), 0);
        }
        Bounds.changesNothing(Scenes::fresh, r -> r.chain(0), 0);
        Bounds.changesNothing(r -> {
            Scenes.fullOfEntries(r);
            r.readTimes(3, 0, 0, 0);
        }, r -> r.chain(200), 0);
        Bounds.changesNothing(Scenes::busy, r -> r.chain(0), 3217);
    }

    // ---- promise 18

    private static void timesAnswer() {
        Room room = manyEntries();
        int[][][] want = new int[6][8][4];
        for (int i = 0; i < 200; i++) {
            want[i % 6][paperOf(i)][versionOf(i)]++;
        }
        for (int bidder = 0; bidder < 6; bidder++) {
            for (int paper = 0; paper < 8; paper++) {
                for (int version = 0; version < (paper == 7 ? 4 : 1); version++) {
                    Bounds.is(room.times(bidder, paper, version), want[bidder][paper][version]);
                }
            }
        }
    }

    private static void timesByTheLog() {
        Room room = new Room().open();
        room.add(0, 0, 0, "x");
        Bounds.is(room.times(0, 0, 0), 0);
        room.readTimes(199, 0, 0, 0);
        Bounds.is(room.times(0, 0, 0), 199);
        room.read(0, 0, 0);
        Bounds.is(room.times(0, 0, 0), 200);
        room.read(0, 0, 0);
        Bounds.is(room.times(0, 0, 0), 200);
        room.read(1, 0, 0);
        Bounds.is(room.times(1, 0, 0), 0);
        room.withdraw(0);
        Bounds.is(room.times(0, 0, 0), 200);
        Bounds.changesNothing(Scenes::busy, r -> r.times(0, 0, 0), 1);
        Bounds.changesNothing(Scenes::busy, r -> r.times(2, 0, 0), 0);
    }

    private static void timesBad() {
        Bounds.badOutside(Scenes::busy, 0, 5, (r, bidder) -> r.times(bidder, 0, 0));
        Bounds.badOutside(Scenes::busy, 0, 3, (r, paper) -> r.times(0, paper, 0));
        Bounds.badOutside(Scenes::fullOfPapers, 0, 7, (r, paper) -> r.times(0, paper, 0));
        Bounds.badOutside(Scenes::busy, 0, 1, (r, version) -> r.times(0, 0, version));
        Bounds.badOutside(Scenes::busy, 0, 0, (r, version) -> r.times(0, 3, version));
        Bounds.badOutside(Scenes::fullOfVersions, 0, 3, (r, version) -> r.times(5, 2, version));
        Bounds.changesNothing(Scenes::fresh, r -> r.times(0, 0, 0), BAD);
    }
}
