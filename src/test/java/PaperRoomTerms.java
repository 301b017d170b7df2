import java.math.BigInteger;

/** The sentences of 'Terms' that name a boundary, each with a test of its own. */
public final class PaperRoomTerms {
    private static final int BAD = Bounds.BAD, STATE = Bounds.STATE, FULL = Bounds.FULL;
    private static final int NO = Bounds.NO, NONE = Bounds.NONE;

    public static void main(String[] args) {
        Bounds.from("Terms");
        Bounds.sentence("FOLDERS are 0 .. 3", PaperRoomTerms::folders);
        Bounds.sentence("GROUPS 0 .. 2", PaperRoomTerms::groups);
        Bounds.sentence("BIDDERS 0 .. 5", PaperRoomTerms::bidders);
        Bounds.sentence("each is in GROUP number modulo 3", PaperRoomTerms::groupOfABidder);
        Bounds.sentence("NOW is a TICK, 0 at first", PaperRoomTerms::nowAtFirst);
        Bounds.sentence("RIGHTS of a GROUP to a FOLDER", PaperRoomTerms::rightsOfEachPair);
        Bounds.sentence("RIGHTS: from a TICK on", PaperRoomTerms::fromATick);
        Bounds.sentence("RIGHTS: before another one", PaperRoomTerms::beforeATick);
        Bounds.sentence("RIGHTS: none at first: from 0, before 0", PaperRoomTerms::noRightsAtFirst);
        Bounds.sentence("PAPERS (8 at most)", PaperRoomTerms::eightPapers);
        Bounds.sentence("KINDS: 0 PAPER, 1 HELD, 2 MARKED", PaperRoomTerms::kinds);
        Bounds.sentence("VERSIONS 0, 1, .. (4 at most)", PaperRoomTerms::fourVersions);
        Bounds.sentence("each a text of 1 .. 40 bytes", PaperRoomTerms::lengthOfAText);
        Bounds.sentence("bytes (32 .. 126)", PaperRoomTerms::bytesOfAText);
        Bounds.sentence("is WITHDRAWN, or not", PaperRoomTerms::withdrawnOrNot);
        Bounds.sentence("a HELD one has a TICK from which it is let go", PaperRoomTerms::letGo);
        Bounds.sentence("BLACK spans: from a byte on, before another one", PaperRoomTerms::everySpan);
        Bounds.sentence("BLACK spans are of one of its VERSIONS", PaperRoomTerms::spanOfOneVersion);
        Bounds.sentence("THE PLAIN: 35 at each BLACK byte", PaperRoomTerms::plain);
        Bounds.sentence("PAPER: not WITHDRAWN, and NOW is within RIGHTS", PaperRoomTerms::mayPaper);
        Bounds.sentence("HELD: up, and NOW is not before its TICK", PaperRoomTerms::mayHeld);
        Bounds.sentence("MARKED: up", PaperRoomTerms::mayMarked);
        Bounds.sentence("(1), (10), (100) come to THE TRACE as often as may() asks", PaperRoomTerms::traced);
        Bounds.sentence("THE VIEW of PAPER, HELD: THE PLAIN", PaperRoomTerms::viewUnmarked);
        Bounds.sentence("MARKED: the k-th from 0 on, bit k modulo 3", PaperRoomTerms::viewMarked);
        Bounds.sentence("MARKED: behind each 32 of THE PLAIN", PaperRoomTerms::viewOfBlackSpaces);
        Bounds.sentence("MARKED: the longest VIEWS", PaperRoomTerms::longestViews);
        Bounds.sentence("THE LOG (200 at most)", PaperRoomTerms::twoHundredEntries);
        Bounds.sentence("those beyond are told alone", PaperRoomTerms::beyondTheLog);
        Bounds.sentence("and counted LOST", PaperRoomTerms::lost);
        Bounds.sentence("CHAIN: 31 times that of the entry before (7 for the first)", PaperRoomTerms::firstChain);
        Bounds.sentence("1000 TICK, 100 BIDDER, 10 PAPER and VERSION, added", PaperRoomTerms::chainOfEachNumber);
        Bounds.sentence("CHAIN: 64 bits, wrapping", PaperRoomTerms::chainWraps);
        Bounds.sentence("A SEARCH for THE DRAFT (20 at most, at least one)", PaperRoomTerms::draftOfASearch);
        Bounds.sentence("how many PAPERS it MAY see", PaperRoomTerms::foundPapers);
        Bounds.sentence("whose latest VERSION's PLAIN has it", PaperRoomTerms::foundInTheLatest);
        Bounds.sentence("has it, somewhere", PaperRoomTerms::foundSomewhere);
        Bounds.sentence("35 of a BLACK byte is like no byte of THE DRAFT", PaperRoomTerms::blackIsNotFound);
        Bounds.sentence("QUESTIONS (30 at most)", PaperRoomTerms::thirtyQuestions);
        Bounds.sentence("with a TOPIC 0 .. 9", PaperRoomTerms::topics);
        Bounds.sentence("A BIDDER who MAY see the PAPER asks", PaperRoomTerms::whoAsks);
        Bounds.sentence("twice a TICK at most", PaperRoomTerms::twiceATick);
        Bounds.sentence("One of a PAPER and TOPIC that there is is joined", PaperRoomTerms::joined);
        Bounds.sentence("that one's ASKERS are all who asked so", PaperRoomTerms::askers);
        Bounds.sentence("An ANSWER (a number 0 .. 999)", PaperRoomTerms::answers);
        Bounds.sentence("once for each QUESTION", PaperRoomTerms::answeredOnce);
        Bounds.sentence("is for ASKERS alone, or for all", PaperRoomTerms::whomAnAnswerIsFor);
        Bounds.sentence("who MAY see the PAPER as they ask for it", PaperRoomTerms::whoHears);
        Bounds.sentence("NAMED: the BIDDERS whose VIEW begins with it", PaperRoomTerms::namedByTheStart);
        Bounds.sentence("Refused, the first of these: BAD, STATE, FULL", PaperRoomTerms::firstRefusal);
        Bounds.sentence("Refused, NO has its place as told", PaperRoomTerms::placeOfNo);
        Bounds.end();
    }

    // ---- folders, groups, bidders

    private static void folders() {
        Room room = new Room();
        for (int folder = 0; folder < 4; folder++) {
            Bounds.is(room.add(0, folder, 0, "x"), folder);
            Bounds.is(room.about(folder, 1), folder);
            Bounds.is(room.rights(0, folder, 0, 1), 1);
            Bounds.is(room.may(0, folder), 1);
        }
        Bounds.badOutside(Scenes::busy, 0, 3, (r, folder) -> r.paper(0, folder, 0));
        Bounds.badOutside(Scenes::busy, 0, 3, (r, folder) -> r.paper(1, folder, 0));
        Bounds.badOutside(Scenes::busy, 0, 3, (r, folder) -> r.paper(2, folder, 0));
        Bounds.badOutside(Scenes::busy, 0, 3, (r, folder) -> r.rights(1, folder, 0, 0));
    }

    private static void groups() {
        Room room = new Room();
        room.add(0, 0, 0, "x");
        for (int group = 0; group < 3; group++) {
            Bounds.is(room.may(group, 0), 0);
            Bounds.is(room.rights(group, 0, 0, 1), 1);
            Bounds.is(room.may(group, 0), 1);
        }
        Bounds.badOutside(Scenes::busy, 0, 2, (r, group) -> r.rights(group, 0, 0, 0));
        Bounds.badOutside(Scenes::busy, 0, 2, (r, group) -> r.rights(group, 3, 0, 0));
    }

    private static void bidders() {
        for (int bidder = 0; bidder < 6; bidder++) {
            Room room = new Room().open();
            room.add(0, 0, 0, "x");
            room.write("x");
            Bounds.is(room.may(bidder, 0), 1);
            Bounds.is(room.at(bidder, 0), NONE);
            Bounds.is(room.read(bidder, 0, 0), 1);
            Bounds.is(room.at(bidder, 0), 'x');
            Bounds.is(room.search(bidder), 1);
            Bounds.is(room.times(bidder, 0, 0), 1);
            Bounds.is(room.ask(bidder, 0, 0), 0);
            Bounds.is(room.hear(bidder, 0), STATE);
        }
        Bounds.badOutside(Scenes::busy, 0, 5, (r, bidder) -> r.may(bidder, 0));
        Bounds.badOutside(Scenes::busy, 0, 5, (r, bidder) -> r.read(bidder, 0, 0));
        Bounds.badOutside(Scenes::busy, 0, 5, (r, bidder) -> r.at(bidder, 0));
        Bounds.badOutside(Scenes::busy, 0, 5, (r, bidder) -> r.search(bidder));
        Bounds.badOutside(Scenes::busy, 0, 5, (r, bidder) -> r.times(bidder, 0, 0));
        Bounds.badOutside(Scenes::busy, 0, 5, (r, bidder) -> r.ask(bidder, 0, 0));
        Bounds.badOutside(Scenes::busy, 0, 5, (r, bidder) -> r.hear(bidder, 0));
    }

    private static void groupOfABidder() {
        int[][] membersOf = {{0, 3}, {1, 4}, {2, 5}};
        for (int group = 0; group < 3; group++) {
            Room room = new Room();
            room.add(0, 2, 0, "x");
            room.rights(group, 2, 0, 1);
            int seers = 0;
            for (int bidder = 0; bidder < 6; bidder++) {
                seers += room.may(bidder, 0) << bidder;
            }
            Bounds.is(seers, 1 << membersOf[group][0] | 1 << membersOf[group][1]);
        }
    }

    // ---- rights

    private static void nowAtFirst() {
        Room room = new Room();
        Bounds.is(room.count(1), 0);
        room.add(0, 0, 0, "x");
        room.rights(0, 0, 0, 1);
        Bounds.is(room.may(0, 0), 1);
        room.read(0, 0, 0);
        Bounds.is(room.log(0, 0), 0);
        Bounds.is(room.tick(1), 1);
        Bounds.is(room.may(0, 0), 0);
    }

    private static void rightsOfEachPair() {
        for (int pair = 0; pair < 12; pair++) {
            int group = pair / 4, folder = pair % 4;
            Room room = new Room();
            for (int i = 0; i < 4; i++) {
                room.add(0, i, 0, "x");
            }
            room.rights(group, folder, 0, 1);
            for (int bidder = 0; bidder < 6; bidder++) {
                for (int paper = 0; paper < 4; paper++) {
                    Bounds.is(room.may(bidder, paper), bidder % 3 == group && paper == folder ? 1 : 0);
                }
            }
            room.open();
            room.rights(group, folder, 0, 0);
            for (int bidder = 0; bidder < 6; bidder++) {
                for (int paper = 0; paper < 4; paper++) {
                    Bounds.is(room.may(bidder, paper), bidder % 3 == group && paper == folder ? 0 : 1);
                }
            }
        }
    }

    /** A room with an answered question, at a tick, where group 1 has rights from one to another. */
    private static Room timed(int from, int before, int now) {
        Room room = new Room().open();
        room.add(0, 0, 0, "x");
        room.ask(0, 0, 0);
        room.answer(0, 9, true);
        room.rights(1, 0, from, before);
        if (now > 0) {
            room.tick(now);
        }
        room.write("x");
        return room;
    }

    private static void isSeenAt(int from, int before, int now, boolean seen) {
        Room room = timed(from, before, now);
        Bounds.is(room.may(4, 0), seen ? 1 : 0);
        Bounds.is(room.read(4, 0, 0), seen ? 1 : NO);
        Bounds.is(room.at(4, 0), seen ? 'x' : NONE);
        Bounds.is(room.search(4), seen ? 1 : 0);
        Bounds.is(room.hear(4, 0), seen ? 9 : NO);
        Bounds.is(room.ask(4, 0, 1), seen ? 1 : NO);
    }

    private static void fromATick() {
        isSeenAt(0, 9, 0, true);
        isSeenAt(1, 9, 0, false);
        isSeenAt(1, 9, 1, true);
        isSeenAt(7, 20, 6, false);
        isSeenAt(7, 20, 7, true);
        isSeenAt(7, 20, 8, true);
        isSeenAt(1000, 1000000, 999, false);
        isSeenAt(1000, 1000000, 1000, true);
        isSeenAt(1000000, 1000000, 1000, false);
    }

    private static void beforeATick() {
        isSeenAt(0, 1, 0, true);
        isSeenAt(0, 1, 1, false);
        isSeenAt(0, 9, 8, true);
        isSeenAt(0, 9, 9, false);
        isSeenAt(0, 9, 10, false);
        isSeenAt(7, 8, 7, true);
        isSeenAt(7, 8, 8, false);
        isSeenAt(7, 7, 7, false);
        isSeenAt(8, 7, 7, false);
        isSeenAt(8, 7, 8, false);
        isSeenAt(0, 1000, 999, true);
        isSeenAt(0, 1000, 1000, false);
    }

    private static void noRightsAtFirst() {
        Room room = new Room();
        for (int folder = 0; folder < 4; folder++) {
            room.add(0, folder, 0, "x");
        }
        for (int step = 0; step < 3; step++) {
            for (int bidder = 0; bidder < 6; bidder++) {
                for (int folder = 0; folder < 4; folder++) {
                    Bounds.is(room.may(bidder, folder), 0);
                }
            }
            room.tick(step == 0 ? 1 : 1000);
        }
        Room granted = new Room();
        granted.add(0, 1, 0, "x");
        Bounds.is(granted.rights(0, 1, 0, 0), 1);
        Bounds.is(granted.may(0, 0), 0);
        Bounds.is(granted.read(0, 0, 0), NO);
    }

    // ---- papers and their texts

    private static void eightPapers() {
        for (int kind = 0; kind < 3; kind++) {
            Room room = new Room().open();
            for (int paper = 0; paper < 8; paper++) {
                Bounds.is(room.count(0), paper);
                Bounds.is(room.about(paper, 0), BAD);
                Bounds.is(room.add(kind, 0, 0, "paper" + paper), paper);
            }
            Bounds.is(room.add(kind, 0, 0, "paper8"), FULL);
            Bounds.is(room.count(0), 8);
            Bounds.is(room.about(8, 0), BAD);
            for (int paper = 0; paper < 8; paper++) {
                Bounds.sees(room, 0, paper, 0, "paper" + paper);
            }
        }
        for (int kind = 0; kind < 3; kind++) {
            int last = kind;
            Bounds.changesNothing(Scenes::fullOfPapers, r -> r.paper(last, 0, 0), FULL);
        }
        Room withdrawn = new Room();
        for (int paper = 0; paper < 8; paper++) {
            withdrawn.add(0, 0, 0, "x");
            withdrawn.withdraw(paper);
        }
        Bounds.is(withdrawn.add(0, 0, 0, "x"), FULL);
    }

    private static void kinds() {
        Room room = new Room();
        for (int kind = 0; kind < 3; kind++) {
            Bounds.is(room.add(kind, 0, 0, "x"), kind);
            Bounds.is(room.about(kind, 0), kind);
        }
        Bounds.badOutside(Scenes::busy, 0, 2, (r, kind) -> r.paper(kind, 0, 0));
    }

    private static void fourVersions() {
        Room room = new Room().open();
        for (int paper = 0; paper < 8; paper++) {
            Bounds.is(room.add(paper % 3, 0, 0, "v0p" + paper), paper);
            for (int version = 1; version < 4; version++) {
                Bounds.is(room.about(paper, 2), version);
                Bounds.is(room.blacken(paper, version, 0, 1), BAD);
                Bounds.is(room.revise(paper, "v" + version + "p" + paper), version);
            }
            Bounds.is(room.revise(paper, "v4"), FULL);
            Bounds.is(room.about(paper, 2), 4);
            Bounds.is(room.read(0, paper, 4), BAD);
        }
        for (int paper = 0; paper < 8; paper++) {
            for (int version = 0; version < 4; version++) {
                Bounds.is(room.read(0, paper, version), 4);
                Bounds.is(room.at(0, 1), '0' + version);
                Bounds.is(room.at(0, 3), '0' + paper);
            }
        }
        for (int paper = 0; paper < 3; paper++) {
            int full = paper;
            Bounds.changesNothing(Scenes::fullOfVersions, r -> r.version(full), FULL);
        }
    }

    private static void lengthOfAText() {
        Room room = new Room().open();
        Bounds.is(room.paper(0, 0, 0), STATE);
        Bounds.is(room.add(0, 0, 0, "x"), 0);
        Bounds.is(room.version(0), STATE);
        Bounds.is(room.write(Scenes.FORTY), 40);
        Bounds.is(room.type('z', 1), FULL);
        Bounds.is(room.version(0), 1);
        Bounds.is(room.write(Scenes.FORTY), 40);
        Bounds.is(room.paper(1, 0, 0), 1);
        Bounds.is(room.revise(1, "y"), 1);
        Bounds.sees(room, 0, 0, 0, "x");
        Bounds.sees(room, 0, 0, 1, Scenes.FORTY);
        Bounds.sees(room, 0, 1, 0, Scenes.FORTY);
        Bounds.sees(room, 0, 1, 1, "y");
    }

    private static void bytesOfAText() {
        for (int b = 0; b < 256; b++) {
            Room room = new Room().open();
            boolean taken = b >= 32 && b <= 126;
            Bounds.is(room.type(b, 1), taken ? 1 : BAD);
            Bounds.is(room.type('a' << 8 | b, 2), taken ? 3 : BAD);
            Bounds.is(room.type((long) b << 56 | 0x61616161616161L, 8), taken ? 11 : BAD);
            Bounds.is(room.count(2), taken ? 11 : 0);
            if (taken) {
                room.paper(0, 0, 0);
                char c = (char) b;
                Bounds.sees(room, 0, 0, 0, c + "a" + c + c + "aaaaaaa");
            }
        }
    }

    private static void withdrawnOrNot() {
        for (int gone = 0; gone < 8; gone++) {
            Room room = new Room().open();
            for (int paper = 0; paper < 8; paper++) {
                room.add(paper % 3, 0, 0, "x");
            }
            room.withdraw(gone);
            for (int paper = 0; paper < 8; paper++) {
                Bounds.is(room.about(paper, 3), paper == gone ? 1 : 0);
                Bounds.is(room.may(0, paper), paper == gone ? 0 : 1);
            }
        }
    }

    private static void letGo() {
        int[] ticks = {0, 1, 2, 500, 999};
        for (int tick : ticks) {
            Room room = new Room().open();
            room.add(1, 0, tick, "held");
            room.add(0, 0, tick, "plain");
            room.add(2, 0, tick, "marked");
            Bounds.is(room.may(0, 1), 1);
            Bounds.is(room.may(0, 2), 1);
            if (tick > 1) {
                room.tick(tick - 1);
            }
            if (tick > 0) {
                Bounds.is(room.may(0, 0), 0);
                Bounds.is(room.read(0, 0, 0), NO);
                Bounds.is(room.find(0, "held"), 0);
                Bounds.is(room.ask(0, 0, 0), NO);
                room.tick(1);
            }
            Bounds.is(room.may(0, 0), 1);
            Bounds.is(room.read(0, 0, 0), 4);
            Bounds.is(room.find(0, "held"), 1);
            Bounds.is(room.ask(0, 0, 0), 0);
            room.tick(1);
            Bounds.is(room.may(0, 0), 1);
        }
        Room never = new Room().open();
        never.add(1, 0, Bounds.HIGHEST, "held");
        never.tick(1000);
        Bounds.is(never.may(0, 0), 0);
    }

    // ---- black

    private static void everySpan() {
        String text = "abcdef";
        for (int from = 0; from < 6; from++) {
            for (int to = from + 1; to <= 6; to++) {
                Room room = new Room().open();
                room.add(0, 0, 0, text);
                Bounds.is(room.blacken(0, 0, from, to), to - from);
                Bounds.sees(room, 0, 0, 0, text.substring(0, from) + "######".substring(from, to) + text.substring(to));
            }
        }
        Room longest = new Room().open();
        longest.add(0, 0, 0, Scenes.FORTY);
        Bounds.is(longest.blacken(0, 0, 39, 40), 1);
        Bounds.is(longest.blacken(0, 0, 0, 1), 2);
        Bounds.sees(longest, 0, 0, 0, "#" + Scenes.FORTY.substring(1, 39) + "#");
        Bounds.is(longest.blacken(0, 0, 0, 40), 40);
    }

    private static void spanOfOneVersion() {
        for (int black = 0; black < 4; black++) {
            Room room = new Room().open();
            for (int paper = 0; paper < 2; paper++) {
                room.add(0, 0, 0, "abc");
                for (int version = 1; version < 4; version++) {
                    room.revise(paper, "abc");
                }
            }
            Bounds.is(room.blacken(1, black, 1, 2), 1);
            for (int version = 0; version < 4; version++) {
                Bounds.sees(room, 0, 0, version, "abc");
                Bounds.sees(room, 0, 1, version, version == black ? "a#c" : "abc");
            }
        }
        Room later = new Room().open();
        later.add(0, 0, 0, "abc");
        later.blacken(0, 0, 0, 3);
        later.revise(0, "abc");
        Bounds.sees(later, 0, 0, 1, "abc");
        Bounds.is(later.blacken(0, 1, 0, 1), 1);
    }

    private static void plain() {
        Room room = new Room().open();
        room.add(0, 0, 0, "a #~b");
        Bounds.sees(room, 0, 0, 0, "a #~b");
        room.blacken(0, 0, 1, 2);
        Bounds.sees(room, 0, 0, 0, "a##~b");
        room.blacken(0, 0, 2, 4);
        Bounds.sees(room, 0, 0, 0, "a###b");
        room.blacken(0, 0, 0, 5);
        Bounds.sees(room, 0, 0, 0, "#####");
        room.add(1, 0, 0, "a b");
        room.blacken(1, 0, 0, 1);
        Bounds.sees(room, 0, 1, 0, "# b");
    }

    // ---- may

    private static void mayPaper() {
        for (int withdrawn = 0; withdrawn < 2; withdrawn++) {
            for (int now = 2; now < 6; now++) {
                Room room = new Room();
                room.add(0, 0, 99, "x");
                room.rights(0, 0, 3, 5);
                room.tick(now);
                if (withdrawn == 1) {
                    room.withdraw(0);
                }
                Bounds.is(room.may(0, 0), withdrawn == 0 && (now == 3 || now == 4) ? 1 : 0);
                Bounds.is(room.may(1, 0), 0);
            }
        }
    }

    private static void mayHeld() {
        for (int withdrawn = 0; withdrawn < 2; withdrawn++) {
            for (int now = 2; now < 8; now++) {
                Room room = new Room();
                room.add(1, 0, 5, "x");
                room.rights(0, 0, 3, 7);
                room.tick(now);
                if (withdrawn == 1) {
                    room.withdraw(0);
                }
                Bounds.is(room.may(0, 0), withdrawn == 0 && (now == 5 || now == 6) ? 1 : 0);
                Bounds.is(room.may(2, 0), 0);
            }
        }
    }

    private static void mayMarked() {
        for (int withdrawn = 0; withdrawn < 2; withdrawn++) {
            for (int now = 2; now < 6; now++) {
                Room room = new Room();
                room.add(2, 0, 99, "x");
                room.rights(0, 0, 3, 5);
                room.tick(now);
                if (withdrawn == 1) {
                    room.withdraw(0);
                }
                Bounds.is(room.may(3, 0), withdrawn == 0 && (now == 3 || now == 4) ? 1 : 0);
                Bounds.is(room.may(4, 0), 0);
            }
        }
    }

    private static void traced() {
        int[] each = {1, 11, 101};
        for (int kind = 0; kind < 3; kind++) {
            Room room = new Room();
            room.add(kind, 0, 5, "x");
            Bounds.is(room.trace(), 0);
            room.may(0, 0);
            Bounds.is(room.trace(), each[kind]);
            room.rights(0, 0, 0, 9);
            room.may(0, 0);
            Bounds.is(room.trace(), 2 * each[kind]);
            room.tick(5);
            Bounds.is(room.may(0, 0), 1);
            Bounds.is(room.trace(), 3 * each[kind]);
            room.withdraw(0);
            room.may(0, 0);
            Bounds.is(room.trace(), 4 * each[kind]);
            for (int i = 4; i < 400; i++) {
                room.may(i % 6, 0);
            }
            Bounds.is(room.trace(), 400 * each[kind]);
        }
    }

    // ---- views

    private static void viewUnmarked() {
        for (int kind = 0; kind < 2; kind++) {
            Room room = new Room().open();
            room.add(kind, 0, 0, " a  b# ");
            room.blacken(0, 0, 2, 3);
            for (int bidder = 0; bidder < 6; bidder++) {
                Bounds.sees(room, bidder, 0, 0, " a# b# ");
            }
        }
    }

    private static void viewMarked() {
        Room room = new Room().open();
        room.add(2, 0, 0, " a b c d e f g");
        Bounds.sees(room, 0, 0, 0, " a b c d e f g");
        Bounds.sees(room, 1, 0, 0, "  a b c  d e f  g");
        Bounds.sees(room, 2, 0, 0, " a  b c d  e f g");
        Bounds.sees(room, 3, 0, 0, "  a  b c  d  e f  g");
        Bounds.sees(room, 4, 0, 0, " a b  c d e  f g");
        Bounds.sees(room, 5, 0, 0, "  a b  c  d e  f  g");
        room.revise(0, "none");
        for (int bidder = 0; bidder < 6; bidder++) {
            Bounds.sees(room, bidder, 0, 1, "none");
        }
        room.revise(0, " ");
        for (int bidder = 0; bidder < 6; bidder++) {
            Bounds.sees(room, bidder, 0, 2, bidder % 2 == 1 ? "  " : " ");
        }
    }

    private static void viewOfBlackSpaces() {
        Room room = new Room().open();
        room.add(2, 0, 0, "a b c d");
        room.blacken(0, 0, 1, 2);
        Bounds.sees(room, 0, 0, 0, "a#b c d");
        Bounds.sees(room, 1, 0, 0, "a#b  c d");
        Bounds.sees(room, 2, 0, 0, "a#b c  d");
        Bounds.sees(room, 4, 0, 0, "a#b c d");
        room.blacken(0, 0, 5, 6);
        Bounds.sees(room, 3, 0, 0, "a#b  c#d");
        room.blacken(0, 0, 0, 7);
        Bounds.sees(room, 5, 0, 0, "#######");
    }

    private static void longestViews() {
        String spaces = " ".repeat(40);
        int[] lengths = {40, 54, 53, 67, 53, 67};
        for (int bidder = 0; bidder < 6; bidder++) {
            Room room = new Room().open();
            room.write(spaces);
            room.paper(2, 0, 0);
            Bounds.sees(room, bidder, 0, 0, " ".repeat(lengths[bidder]));
            Bounds.is(room.at(bidder, lengths[bidder] - 1), ' ');
            Bounds.is(room.at(bidder, lengths[bidder]), NONE);
            Bounds.is(room.at(bidder, 80), NONE);
            room.write(spaces.substring(1) + "z");
            room.version(0);
            int longest = lengths[bidder] - bidder % 2;
            Bounds.sees(room, bidder, 0, 1, " ".repeat(longest - 1) + "z");
        }
    }

    // ---- the log

    private static void twoHundredEntries() {
        Room room = new Room().open();
        room.add(0, 0, 0, "x");
        for (int i = 0; i < 199; i++) {
            room.read(0, 0, 0);
        }
        Bounds.is(room.count(3), 199);
        Bounds.is(room.log(198, 1), 0);
        Bounds.is(room.log(199, 1), BAD);
        room.read(5, 0, 0);
        Bounds.is(room.count(3), 200);
        Bounds.is(room.count(4), 0);
        Bounds.is(room.log(199, 1), 5);
        Bounds.isNot(room.chain(199), 0);
        Bounds.is(room.times(5, 0, 0), 1);
        room.read(4, 0, 0);
        Bounds.is(room.count(3), 200);
        Bounds.is(room.log(199, 1), 5);
        Bounds.is(room.log(200, 1), BAD);
        Bounds.is(room.log(0, 1), 0);
    }

    private static void beyondTheLog() {
        Room room = new Room();
        Scenes.fullOfEntries(room);
        long last = room.chain(199);
        room.tick(1);
        Bounds.is(room.at(5, 0), NONE);
        Bounds.sees(room, 5, 1, 0, "t  w o");
        Bounds.sees(room, 0, 1, 0, "t w o");
        Bounds.sees(room, 0, 0, 0, "one");
        Bounds.is(room.times(5, 1, 0), 0);
        Bounds.is(room.times(0, 1, 0), 0);
        Bounds.is(room.times(0, 0, 0), 150);
        Bounds.is(room.times(1, 1, 0), 50);
        Bounds.is(room.log(199, 0), 2);
        Bounds.is(room.log(199, 1), 1);
        Bounds.is(room.chain(199), last);
        Bounds.is(room.log(200, 0), BAD);
        Bounds.is(room.chain(200), 0);
    }

    private static void lost() {
        Room room = new Room();
        Scenes.fullOfEntries(room);
        Bounds.is(room.count(4), 0);
        for (int i = 1; i <= 30; i++) {
            room.read(i % 6, 0, 0);
            Bounds.is(room.count(4), i);
            Bounds.is(room.count(3), 200);
        }
        Bounds.changesNothing(Scenes::fullOfEntries, r -> r.read(0, 2, 0), NO);
        Bounds.changesNothing(Scenes::fullOfEntries, r -> r.read(0, 3, 0), BAD);
        Bounds.changesNothing(Scenes::fullOfEntries, r -> r.read(6, 0, 0), BAD);
    }

    private static void firstChain() {
        Room room = new Room().open();
        room.add(0, 0, 0, "x");
        Bounds.is(room.chain(0), 0);
        room.read(0, 0, 0);
        Bounds.is(room.chain(0), 217);
        room.read(0, 0, 0);
        Bounds.is(room.chain(1), 6727);
        room.read(0, 0, 0);
        Bounds.is(room.chain(2), 208537);
        Bounds.is(room.chain(0), 217);
        Bounds.is(room.chain(3), 0);
    }

    private static void chainOfEachNumber() {
        for (int kind = 0; kind < 4; kind++) {
            Room room = new Room().open();
            for (int paper = 0; paper < 8; paper++) {
                room.add(0, 0, 0, "x");
            }
            for (int version = 1; version < 4; version++) {
                room.revise(0, "x");
            }
            if (kind == 0) {
                room.tick(13);
            }
            room.read(kind == 1 ? 5 : 0, kind == 2 ? 7 : 0, kind == 3 ? 3 : 0);
            Bounds.is(room.chain(0), 217 + new int[] {13000, 500, 70, 3}[kind]);
        }
        Room all = new Room().open();
        all.add(0, 0, 0, "x");
        all.add(0, 0, 0, "x");
        all.revise(1, "x");
        all.tick(2);
        all.read(4, 1, 1);
        Bounds.is(all.chain(0), 217 + 2411);
        all.tick(1000);
        all.read(3, 1, 0);
        Bounds.is(all.chain(1), 31 * 2628 + 1002310);
    }

    private static void chainWraps() {
        Room room = new Room().open();
        room.add(0, 0, 0, "x");
        room.add(0, 0, 0, "x");
        room.revise(1, "x");
        BigInteger want = BigInteger.valueOf(7);
        boolean wrapped = false;
        int below = 0;
        int now = 0;
        for (int i = 0; i < 200; i++) {
            if (i % 9 == 8) {
                now = room.tick(1000);
            }
            int bidder = i % 6, paper = i % 2, version = paper * (i / 2 % 2);
            room.read(bidder, paper, version);
            BigInteger exact = want.multiply(BigInteger.valueOf(31))
                    .add(BigInteger.valueOf(1000L * now + 100 * bidder + 10 * paper + version));
            want = BigInteger.valueOf(exact.longValue());
            wrapped |= !want.equals(exact);
            below += want.signum() < 0 ? 1 : 0;
            Bounds.is(room.chain(i), want.longValue());
        }
        Bounds.is(wrapped && below > 0 ? 1 : 0, 1);
    }

    // ---- search

    private static void draftOfASearch() {
        Room room = new Room().open();
        room.write(Scenes.FORTY);
        room.paper(0, 0, 0);
        Bounds.is(room.search(0), STATE);
        for (int bytes = 1; bytes <= 40; bytes++) {
            Bounds.is(room.find(0, Scenes.FORTY.substring(0, bytes)), bytes <= 20 ? 1 : STATE);
            Bounds.is(room.count(2), bytes);
        }
        Bounds.changesNothing(Scenes::busyWithoutDraft, r -> r.search(0), STATE);
        for (int bytes : new int[] {21, 22, 40}) {
            Bounds.changesNothing(r -> Scenes.draftOf(r, bytes), r -> r.search(0), STATE);
        }
        Bounds.changesNothing(r -> Scenes.draftOf(r, 20), r -> r.search(0), 0);
        Bounds.changesNothing(r -> Scenes.draftOf(r, 1), r -> r.search(0), 1);
    }

    private static void foundPapers() {
        Room room = new Room().open();
        room.write("x");
        Bounds.is(room.search(0), 0);
        for (int paper = 0; paper < 8; paper++) {
            room.add(paper % 3, paper % 4, 0, "xx");
            Bounds.is(room.find(0, "x"), paper + 1);
        }
        room.rights(0, 3, 0, 0);
        Bounds.is(room.search(0), 6);
        Bounds.is(room.search(3), 6);
        Bounds.is(room.search(1), 8);
        room.withdraw(0);
        Bounds.is(room.search(0), 5);
        Bounds.is(room.search(1), 7);
        room.rights(1, 0, 1, 9);
        Bounds.is(room.search(1), 6);
        room.tick(1);
        Bounds.is(room.search(1), 7);
        for (int paper = 1; paper < 8; paper++) {
            room.withdraw(paper);
        }
        Bounds.is(room.search(1), 0);
    }

    private static void foundInTheLatest() {
        Room room = new Room().open();
        room.add(0, 0, 0, "v0");
        for (int version = 1; version < 4; version++) {
            Bounds.is(room.find(0, "v" + (version - 1)), 1);
            room.revise(0, "v" + version);
            Bounds.is(room.find(0, "v" + (version - 1)), 0);
            Bounds.is(room.find(0, "v" + version), 1);
        }
        room.blacken(0, 2, 0, 2);
        Bounds.is(room.find(0, "v3"), 1);
        room.blacken(0, 3, 0, 1);
        Bounds.is(room.find(0, "v3"), 0);
        Bounds.is(room.find(0, "3"), 1);
    }

    private static void foundSomewhere() {
        String text = "aabaac";
        Room room = new Room().open();
        room.add(0, 0, 0, text);
        for (int from = 0; from < text.length(); from++) {
            for (int to = from + 1; to <= text.length(); to++) {
                Bounds.is(room.find(0, text.substring(from, to)), 1);
            }
        }
        Bounds.is(room.find(0, "aabaac "), 0);
        Bounds.is(room.find(0, " aabaac"), 0);
        Bounds.is(room.find(0, "ca"), 0);
        Bounds.is(room.find(0, "aaa"), 0);
        Bounds.is(room.find(0, "AAB"), 0);
        Room longest = new Room().open();
        longest.write(Scenes.FORTY);
        longest.paper(2, 0, 0);
        Bounds.is(longest.find(0, Scenes.FORTY.substring(20)), 1);
        Bounds.is(longest.find(0, Scenes.FORTY.substring(21) + "z"), 0);
        Bounds.is(longest.find(0, "N"), 1);
        longest.revise(0, "a b c");
        Bounds.is(longest.find(5, "a b c"), 1);
        Bounds.is(longest.find(5, "a  b"), 0);
    }

    private static void blackIsNotFound() {
        Room room = new Room().open();
        room.add(0, 0, 0, "a#b#c");
        Bounds.is(room.find(0, "#"), 1);
        Bounds.is(room.find(0, "a#b#c"), 1);
        room.blacken(0, 0, 1, 2);
        Bounds.is(room.find(0, "a#"), 0);
        Bounds.is(room.find(0, "#b"), 0);
        Bounds.is(room.find(0, "a"), 1);
        Bounds.is(room.find(0, "b#c"), 1);
        room.blacken(0, 0, 4, 5);
        Bounds.is(room.find(0, "c"), 0);
        Bounds.is(room.find(0, "##"), 0);
        Bounds.is(room.find(0, "b#"), 1);
        room.blacken(0, 0, 0, 5);
        Bounds.is(room.find(0, "#"), 0);
        Bounds.is(room.find(0, "#####"), 0);
        Bounds.is(room.find(0, "a"), 0);
    }

    // ---- questions

    private static void thirtyQuestions() {
        Room room = new Room();
        Scenes.nearlyFullOfQuestions(room);
        Bounds.is(room.count(5), 29);
        Bounds.is(room.question(28, 1), 8);
        Bounds.is(room.question(29, 0), BAD);
        Bounds.is(room.ask(1, 3, 7), 29);
        Bounds.is(room.count(5), 30);
        Bounds.is(room.question(29, 0), 3);
        Bounds.is(room.question(29, 1), 7);
        Bounds.is(room.ask(1, 3, 8), FULL);
        Bounds.is(room.count(5), 30);
        Bounds.is(room.question(30, 0), BAD);
        Bounds.is(room.ask(1, 3, 7), 29);
        Bounds.is(room.ask(2, 0, 0), 0);
        Bounds.changesNothing(Scenes::fullOfQuestions, r -> r.ask(0, 3, 0), FULL);
        Bounds.changesNothing(Scenes::fullOfQuestions, r -> r.ask(5, 3, 9), FULL);
    }

    private static void topics() {
        Room room = new Room().open();
        room.add(0, 0, 0, "x");
        for (int topic = 0; topic < 10; topic++) {
            Bounds.is(room.ask(topic / 2, 0, topic), topic);
            Bounds.is(room.question(topic, 1), topic);
        }
        Bounds.badOutside(Scenes::busy, 0, 9, (r, topic) -> r.ask(4, 0, topic));
    }

    private static void whoAsks() {
        Bounds.changesNothing(Scenes::busy, r -> r.ask(2, 0, 0), NO);
        Bounds.changesNothing(Scenes::busy, r -> r.ask(5, 0, 3), NO);
        Bounds.changesNothing(Scenes::busy, r -> r.ask(4, 1, 0), NO);
        Bounds.changesNothing(Scenes::busy, r -> r.ask(4, 3, 0), NO);
        Room room = new Room();
        Scenes.busy(room);
        Bounds.is(room.tick(1), 4);
        Bounds.is(room.ask(2, 0, 0), 3);
        Bounds.is(room.ask(4, 1, 0), NO);
        Bounds.is(room.tick(1), 5);
        Bounds.is(room.ask(4, 1, 0), 4);
        Bounds.is(room.tick(3), 8);
        Bounds.is(room.ask(2, 0, 0), 3);
        Bounds.is(room.tick(1), 9);
        Bounds.is(room.ask(2, 0, 0), NO);
    }

    private static void twiceATick() {
        for (int bidder = 0; bidder < 6; bidder++) {
            Room room = new Room().open();
            room.add(0, 0, 0, "x");
            room.add(0, 1, 0, "y");
            Bounds.is(room.ask(bidder, 0, 0), 0);
            Bounds.is(room.ask(bidder, 0, 0), 0);
            Bounds.is(room.ask(bidder, 0, 0), STATE);
            Bounds.is(room.ask(bidder, 0, 1), STATE);
            Bounds.is(room.ask(bidder, 1, 0), STATE);
            Bounds.is(room.ask((bidder + 3) % 6, 1, 0), 1);
            Bounds.is(room.ask((bidder + 3) % 6, 1, 1), 2);
            Bounds.is(room.ask((bidder + 3) % 6, 1, 2), STATE);
            room.tick(1);
            Bounds.is(room.ask(bidder, 1, 2), 3);
            room.tick(1);
            Bounds.is(room.ask(bidder, 1, 3), 4);
            Bounds.is(room.ask(bidder, 0, 0), 0);
            Bounds.is(room.ask(bidder, 0, 0), STATE);
            Bounds.is(room.tick(0), BAD);
            Bounds.is(room.ask(bidder, 0, 0), STATE);
            Bounds.is(room.tick(1000), 1002);
            Bounds.is(room.ask(bidder, 0, 9), 5);
        }
        Bounds.changesNothing(Scenes::busy, r -> r.ask(0, 0, 3), STATE);
        Bounds.changesNothing(Scenes::busy, r -> r.ask(0, 0, 9), STATE);
        Bounds.changesNothing(Scenes::busy, r -> r.ask(0, 2, 3), STATE);
    }

    private static void joined() {
        Room room = new Room().open();
        room.add(0, 0, 0, "x");
        room.add(0, 0, 0, "x");
        Bounds.is(room.ask(0, 0, 4), 0);
        Bounds.is(room.ask(0, 1, 4), 1);
        Bounds.is(room.ask(1, 0, 5), 2);
        Bounds.is(room.ask(1, 0, 4), 0);
        Bounds.is(room.ask(2, 1, 4), 1);
        Bounds.is(room.ask(2, 1, 5), 3);
        Bounds.is(room.count(5), 4);
        room.answer(0, 1, false);
        Bounds.is(room.ask(5, 0, 4), 0);
        Bounds.is(room.count(5), 4);
        Bounds.is(room.question(0, 3), 1);
    }

    private static void askers() {
        Room room = new Room().open();
        room.add(0, 0, 0, "x");
        int bits = 0;
        for (int bidder = 5; bidder >= 0; bidder--) {
            room.ask(bidder, 0, 0);
            bits |= 1 << bidder;
            Bounds.is(room.question(0, 2), bits);
            room.ask(bidder, 0, 0);
            Bounds.is(room.question(0, 2), bits);
        }
        Bounds.is(room.answer(0, 0, true), 6);
        room.tick(1);
        Bounds.is(room.ask(3, 0, 1), 1);
        Bounds.is(room.question(1, 2), 8);
        Bounds.is(room.answer(1, 0, true), 1);
        room.ask(4, 0, 1);
        Bounds.is(room.question(1, 2), 24);
    }

    private static void answers() {
        for (int v : new int[] {0, 1, 998, 999}) {
            Room room = new Room().open();
            room.add(0, 0, 0, "x");
            room.ask(0, 0, 0);
            Bounds.is(room.answer(0, v, true), 1);
            Bounds.is(room.hear(0, 0), v);
            Bounds.is(room.hear(1, 0), v);
        }
        Bounds.badOutside(Scenes::busy, 0, 999, (r, v) -> r.answer(1, v, true));
        Bounds.badOutside(Scenes::busy, 0, 999, (r, v) -> r.answer(1, v, false));
    }

    private static void answeredOnce() {
        for (int first = 0; first < 2; first++) {
            for (int second = 0; second < 2; second++) {
                boolean forAll = first == 1, forAllThen = second == 1;
                Bounds.changesNothing(r -> {
                    Scenes.busy(r);
                    r.answer(1, 0, forAll);
                }, r -> r.answer(1, 5, forAllThen), STATE);
            }
        }
        Room room = new Room();
        Scenes.busy(room);
        Bounds.is(room.answer(0, 78, true), STATE);
        Bounds.is(room.hear(0, 0), 77);
        Bounds.is(room.question(0, 3), 1);
        Bounds.is(room.answer(2, 0, true), 1);
        Bounds.is(room.answer(2, 0, true), STATE);
        Bounds.is(room.answer(1, 3, true), 1);
    }

    private static void whomAnAnswerIsFor() {
        Room room = new Room().open();
        room.add(0, 0, 0, "x");
        room.ask(1, 0, 0);
        room.ask(5, 0, 0);
        room.ask(1, 0, 1);
        room.answer(0, 10, false);
        room.answer(1, 20, true);
        for (int bidder = 0; bidder < 6; bidder++) {
            Bounds.is(room.hear(bidder, 0), bidder == 1 || bidder == 5 ? 10 : NO);
            Bounds.is(room.hear(bidder, 1), 20);
        }
        Bounds.is(room.ask(2, 0, 0), 0);
        Bounds.is(room.hear(2, 0), 10);
    }

    private static void whoHears() {
        for (int now = 1; now < 7; now++) {
            Room room = new Room().open();
            room.add(0, 0, 0, "x");
            room.ask(0, 0, 0);
            room.answer(0, 10, false);
            room.rights(0, 0, 3, 5);
            room.tick(now);
            Bounds.is(room.hear(0, 0), now == 3 || now == 4 ? 10 : NO);
            room.rights(0, 0, 0, 9);
            Bounds.is(room.hear(0, 0), 10);
            room.withdraw(0);
            Bounds.is(room.hear(0, 0), NO);
        }
        Bounds.changesNothing(Scenes::busy, r -> r.hear(2, 0), NO);
        Bounds.changesNothing(Scenes::busy, r -> r.hear(2, 2), NO);
        Bounds.changesNothing(Scenes::busy, r -> r.hear(1, 0), NO);
    }

    private static void namedByTheStart() {
        Room room = new Room();
        room.add(2, 0, 0, "a b");
        Bounds.is(room.name(0, 0, "a"), 63);
        Bounds.is(room.name(0, 0, "a "), 63);
        Bounds.is(room.name(0, 0, "a b"), 21);
        Bounds.is(room.name(0, 0, "a  "), 42);
        Bounds.is(room.name(0, 0, "a  b"), 42);
        Bounds.is(room.name(0, 0, "a bb"), 0);
        Bounds.is(room.name(0, 0, "a  b "), 0);
        Bounds.is(room.name(0, 0, "b"), 0);
        Bounds.is(room.name(0, 0, " "), 0);
        room.revise(0, " ".repeat(40));
        Bounds.is(room.name(0, 1, " ".repeat(40)), 63);
        room.revise(0, " ".repeat(27));
        Bounds.is(room.name(0, 2, " ".repeat(27)), 63);
        Bounds.is(room.name(0, 2, " ".repeat(28)), 62);
        Bounds.is(room.name(0, 2, " ".repeat(36)), 62);
        Bounds.is(room.name(0, 2, " ".repeat(37)), 40);
        Bounds.is(room.name(0, 2, " ".repeat(40)), 40);
    }

    // ---- the order of refusals

    private static void firstRefusal() {
        Bounds.changesNothing(r -> Scenes.draftOf(r, 40), r -> r.type(31, 1), BAD);
        Bounds.changesNothing(r -> Scenes.draftOf(r, 40), r -> r.type(127, 1), BAD);
        Bounds.changesNothing(r -> Scenes.draftOf(r, 40), r -> r.type('a', 0), BAD);
        Bounds.changesNothing(r -> Scenes.draftOf(r, 40), r -> r.type('a', 9), BAD);
        Bounds.changesNothing(r -> Scenes.draftOf(r, 39), r -> r.type('a', 2), BAD);
        Bounds.changesNothing(Scenes::fresh, r -> r.paper(3, 0, 0), BAD);
        Bounds.changesNothing(Scenes::busyWithoutDraft, r -> r.paper(0, 4, 0), BAD);
        Bounds.changesNothing(Scenes::busyWithoutDraft, r -> r.paper(1, 0, -1), BAD);
        Bounds.changesNothing(Scenes::fullOfPapers, r -> r.paper(3, 0, 0), BAD);
        Bounds.changesNothing(Scenes::fullOfPapers, r -> r.paper(0, -1, 0), BAD);
        Bounds.changesNothing(Scenes::fullOfPapers, r -> r.paper(1, 0, -1), BAD);
        Bounds.changesNothing(PaperRoomTerms::fullWithoutDraft, r -> r.paper(0, 0, 0), STATE);
        Bounds.changesNothing(PaperRoomTerms::fullWithoutDraft, r -> r.paper(0, 4, 0), BAD);
        Bounds.changesNothing(Scenes::busyWithoutDraft, r -> r.version(4), BAD);
        Bounds.changesNothing(PaperRoomTerms::versionsWithoutDraft, r -> r.version(0), STATE);
        Bounds.changesNothing(r -> {
            Scenes.fullOfVersions(r);
            r.withdraw(0);
        }, r -> r.version(0), STATE);
        Bounds.changesNothing(Scenes::busyWithoutDraft, r -> r.search(6), BAD);
        Bounds.changesNothing(r -> Scenes.draftOf(r, 21), r -> r.search(-1), BAD);
        Bounds.changesNothing(Scenes::busyWithoutDraft, r -> r.named(0, 0), BAD);
        Bounds.changesNothing(Scenes::busyWithoutDraft, r -> r.named(2, 2), BAD);
        Bounds.changesNothing(Scenes::busyWithoutDraft, r -> r.named(4, 0), BAD);
        Bounds.changesNothing(Scenes::busy, r -> r.answer(0, 1000, true), BAD);
        Bounds.changesNothing(Scenes::busy, r -> r.answer(0, -1, true), BAD);
    }

    private static void fullWithoutDraft(Room room) {
        Scenes.fullOfPapers(room);
        room.clear();
    }

    private static void versionsWithoutDraft(Room room) {
        Scenes.fullOfVersions(room);
        room.clear();
    }

    private static void placeOfNo() {
        Bounds.changesNothing(Scenes::busy, r -> r.read(2, 0, 2), BAD);
        Bounds.changesNothing(Scenes::busy, r -> r.read(0, 3, 1), BAD);
        Bounds.changesNothing(Scenes::busy, r -> r.ask(2, 0, 10), BAD);
        Bounds.changesNothing(Scenes::busy, r -> r.ask(0, 0, 10), BAD);
        Bounds.changesNothing(Scenes::busy, r -> r.ask(0, 1, 0), NO);
        Bounds.changesNothing(Scenes::busy, r -> r.ask(0, 3, 0), NO);
        Bounds.changesNothing(PaperRoomTerms::askedOut, r -> r.ask(0, 3, 0), STATE);
        Bounds.changesNothing(PaperRoomTerms::askedOut, r -> r.ask(0, 2, 0), STATE);
        Bounds.changesNothing(PaperRoomTerms::askedOut, r -> r.ask(0, 3, 10), BAD);
        Bounds.changesNothing(r -> {
            askedOut(r);
            r.rights(0, 3, 0, 0);
        }, r -> r.ask(0, 3, 0), NO);
        Bounds.changesNothing(r -> {
            Scenes.fullOfQuestions(r);
            r.withdraw(3);
        }, r -> r.ask(1, 3, 0), NO);
        Bounds.changesNothing(Scenes::fullOfQuestions, r -> r.ask(1, 3, 10), BAD);
        Bounds.changesNothing(Scenes::busy, r -> r.hear(2, 2), NO);
        Bounds.changesNothing(Scenes::busy, r -> r.hear(1, 2), STATE);
        Bounds.changesNothing(Scenes::busy, r -> r.hear(0, 2), STATE);
        Bounds.changesNothing(Scenes::busy, r -> r.hear(6, 2), BAD);
        Bounds.changesNothing(Scenes::busy, r -> r.hear(2, 3), BAD);
    }

    /** Full of questions, and bidder 0 has asked twice in this tick. */
    private static void askedOut(Room room) {
        Scenes.fullOfQuestions(room);
        room.ask(0, 0, 0);
        room.ask(0, 0, 1);
    }
}
