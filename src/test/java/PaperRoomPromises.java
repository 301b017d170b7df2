/**
 * One method a promise of the document: ordinary inputs, edges and wrong inputs. No room is called
 * more than 512 times, since the document promises nothing of later calls.
 */
public final class PaperRoomPromises {
    private static final int BAD = -1, STATE = -2, FULL = -3, NO = -4, NONE = -9;
    private static final int LOWEST = Integer.MIN_VALUE, HIGHEST = Integer.MAX_VALUE;

    private static int promise = 0;
    private static int wrong = 0;

    public static void main(String[] args) {
        Watch.start();
        promise = 1; newObject();
        promise = 2; type();
        promise = 3; clear();
        promise = 4; paper();
        promise = 5; version();
        promise = 6; blacken();
        promise = 7; withdraw();
        promise = 8; rights();
        promise = 9; tick();
        promise = 10; about();
        promise = 11; may();
        promise = 12; read();
        promise = 13; at();
        promise = 14; search();
        promise = 15; named();
        promise = 16; log();
        promise = 17; chain();
        promise = 18; times();
        promise = 19; ask();
        promise = 20; answer();
        promise = 21; hear();
        promise = 22; question();
        promise = 23; count();
        promise = 24; trace();
        System.out.println(wrong == 0 ? "all promises hold" : wrong + " answers are not as due");
        if (wrong != 0) {
            System.exit(1);
        }
    }

    private static void due(String what, long got, long want) {
        if (got != want) {
            wrong++;
            System.out.println("promise " + promise + ": " + what + " answered " + got + ", due is " + want);
        }
    }

    // ---- what the tests share

    /** Types a text of any length in pieces of up to 8 bytes; answers what the last type() did. */
    private static int write(PaperRoom room, String text) {
        int answered = 0;
        for (int from = 0; from < text.length(); from += 8) {
            String piece = text.substring(from, Math.min(from + 8, text.length()));
            long v = 0;
            for (int i = 0; i < piece.length(); i++) {
                v = v << 8 | piece.charAt(i);
            }
            answered = room.type(v, piece.length());
        }
        return answered;
    }

    private static int add(PaperRoom room, int kind, int folder, int tick, String text) {
        room.clear();
        write(room, text);
        return room.paper(kind, folder, tick);
    }

    private static int revise(PaperRoom room, int paper, String text) {
        room.clear();
        write(room, text);
        return room.version(paper);
    }

    private static PaperRoom openRoom() {
        PaperRoom room = new PaperRoom();
        for (int group = 0; group < 3; group++) {
            for (int folder = 0; folder < 4; folder++) {
                room.rights(group, folder, 0, 1000000);
            }
        }
        return room;
    }

    private static String lastView(PaperRoom room, int bidder) {
        StringBuilder text = new StringBuilder();
        for (int i = 0; i < 100; i++) {
            int b = room.at(bidder, i);
            if (b < 0) {
                break;
            }
            text.append((char) b);
        }
        return text.toString();
    }

    private static void sees(PaperRoom room, int bidder, int paper, int version, String want) {
        due("read(" + bidder + ", " + paper + ", " + version + ")",
                room.read(bidder, paper, version), want.length());
        String got = lastView(room, bidder);
        due("view of " + bidder + " <" + got + "> is <" + want + ">", got.equals(want) ? 1 : 0, 1);
    }

    private static int finds(PaperRoom room, int bidder, String words) {
        room.clear();
        write(room, words);
        return room.search(bidder);
    }

    private static int names(PaperRoom room, int paper, int version, String start) {
        room.clear();
        write(room, start);
        return room.named(paper, version);
    }

    // ---- the promises

    private static void newObject() {
        PaperRoom room = new PaperRoom();
        for (int what = 0; what <= 5; what++) {
            due("count(" + what + ")", room.count(what), 0);
        }
        due("trace", room.trace(), 0);
        due("chain", room.chain(0), 0);
        due("no paper", room.about(0, 0), BAD);
        due("no question", room.question(0, 0), BAD);
        due("no view", room.at(0, 0), NONE);
        due("draft", room.clear(), 0);
        for (int folder = 0; folder < 4; folder++) {
            add(room, 0, folder, 0, "x");
            for (int bidder = 0; bidder < 6; bidder++) {
                due("no rights", room.may(bidder, folder), 0);
            }
        }
        PaperRoom other = new PaperRoom();
        due("objects stand alone", other.count(0), 0);
    }

    private static void type() {
        PaperRoom room = openRoom();
        due("n 0", room.type(65, 0), BAD);
        due("n -1", room.type(65, -1), BAD);
        due("n 9", room.type(0x4142434445464748L, 9), BAD);
        due("n lowest", room.type(65, LOWEST), BAD);
        due("n highest", room.type(65, HIGHEST), BAD);
        due("31", room.type(31, 1), BAD);
        due("127", room.type(127, 1), BAD);
        due("255", room.type(255, 1), BAD);
        due("first byte bad", room.type(0x1f41, 2), BAD);
        due("middle byte bad", room.type(0x418041, 3), BAD);
        due("last byte bad", room.type(0x417f, 2), BAD);
        due("higher bytes are 0", room.type(65, 2), BAD);
        due("nothing typed", room.count(2), 0);
        due("lowest byte", room.type(32, 1), 1);
        due("highest byte", room.type(126, 1), 2);
        due("higher bytes are not looked at", room.type(0xffffffffffff4142L, 2), 4);
        due("eight", room.type(0x4344454647484950L, 8), 12);
        room.paper(0, 0, 0);
        sees(room, 0, 0, 0, " ~ABCDEFGHIP");
        due("40", write(room, "abcdefghijklmnopqrstuvwxyzabcdefghijklmn"), 40);
        due("41st", room.type(65, 1), FULL);
        due("BAD before FULL", room.type(31, 1), BAD);
        room.clear();
        write(room, "abcdefghijklmnopqrstuvwxyzabcdefghijk");
        due("37 and 4", room.type(0x41414141, 4), FULL);
        due("none of the four came", room.count(2), 37);
        due("37 and 3", room.type(0x414243, 3), 40);
        room.paper(0, 0, 0);
        sees(room, 0, 1, 0, "abcdefghijklmnopqrstuvwxyzabcdefghijkABC");
    }

    private static void clear() {
        PaperRoom room = openRoom();
        due("empty", room.clear(), 0);
        write(room, "abc");
        due("three", room.clear(), 3);
        due("empty then", room.count(2), 0);
        due("again", room.clear(), 0);
        write(room, "de");
        room.paper(0, 0, 0);
        sees(room, 0, 0, 0, "de");
    }

    private static void paper() {
        PaperRoom room = openRoom();
        due("empty draft", room.paper(0, 0, 0), STATE);
        due("BAD before STATE", room.paper(3, 0, 0), BAD);
        write(room, "abc");
        due("kind -1", room.paper(-1, 0, 0), BAD);
        due("kind 3", room.paper(3, 0, 0), BAD);
        due("folder -1", room.paper(0, -1, 0), BAD);
        due("folder 4", room.paper(0, 4, 0), BAD);
        due("HELD, tick -1", room.paper(1, 0, -1), BAD);
        due("HELD, lowest tick", room.paper(1, 0, LOWEST), BAD);
        due("draft stays", room.count(2), 3);
        due("no paper came", room.count(0), 0);
        due("tick of a PAPER is not looked at", room.paper(0, 3, -7), 0);
        due("draft is empty", room.count(2), 0);
        due("again", room.paper(0, 0, 0), STATE);
        due("tick of a MARKED one is not looked at", add(room, 2, 0, LOWEST, "m"), 1);
        due("HELD from 0", add(room, 1, 0, 0, "h"), 2);
        due("HELD, highest tick", add(room, 1, 1, HIGHEST, "h"), 3);
        due("its tick", room.about(3, 4), HIGHEST);
        for (int i = 4; i < 8; i++) {
            due("number", add(room, 0, 0, 0, "n" + i), i);
        }
        due("ninth", add(room, 0, 0, 0, "ninth"), FULL);
        due("draft stays", room.count(2), 5);
        due("BAD before FULL", room.paper(0, 4, 0), BAD);
        room.clear();
        due("STATE before FULL", room.paper(0, 0, 0), STATE);
        due("eight", room.count(0), 8);
        sees(room, 0, 0, 0, "abc");
        sees(room, 0, 7, 0, "n7");
    }

    private static void version() {
        PaperRoom room = openRoom();
        write(room, "x");
        due("no paper", room.version(0), BAD);
        due("-1", room.version(-1), BAD);
        room.paper(0, 0, 0);
        due("empty draft", room.version(0), STATE);
        due("BAD before STATE", room.version(1), BAD);
        due("8", room.version(8), BAD);
        due("highest", room.version(HIGHEST), BAD);
        due("lowest", room.version(LOWEST), BAD);
        due("1", revise(room, 0, "one"), 1);
        due("draft is empty", room.count(2), 0);
        due("2", revise(room, 0, "two"), 2);
        due("3", revise(room, 0, "three"), 3);
        due("fifth", revise(room, 0, "four"), FULL);
        due("draft stays", room.count(2), 4);
        due("of another paper", add(room, 2, 1, 0, "y"), 1);
        due("own numbers", revise(room, 1, "z"), 1);
        due("versions", room.about(0, 2), 4);
        sees(room, 0, 0, 0, "x");
        sees(room, 0, 0, 2, "two");
        sees(room, 0, 0, 3, "three");
        sees(room, 0, 1, 1, "z");
        room.withdraw(0);
        due("STATE before FULL", revise(room, 0, "w"), STATE);
        room.withdraw(1);
        due("withdrawn", revise(room, 1, "w"), STATE);
        due("draft stays", room.count(2), 1);
        due("versions stay", room.about(1, 2), 2);
    }

    private static void blacken() {
        PaperRoom room = openRoom();
        due("no paper", room.blacken(0, 0, 0, 1), BAD);
        add(room, 0, 0, 0, "0123456789");
        revise(room, 0, "abc");
        due("paper -1", room.blacken(-1, 0, 0, 1), BAD);
        due("paper 1", room.blacken(1, 0, 0, 1), BAD);
        due("version -1", room.blacken(0, -1, 0, 1), BAD);
        due("version 2", room.blacken(0, 2, 0, 1), BAD);
        due("version highest", room.blacken(0, HIGHEST, 0, 1), BAD);
        due("from -1", room.blacken(0, 0, -1, 1), BAD);
        due("from is to", room.blacken(0, 0, 4, 4), BAD);
        due("from above to", room.blacken(0, 0, 5, 4), BAD);
        due("to 11", room.blacken(0, 0, 0, 11), BAD);
        due("to of the other version", room.blacken(0, 1, 0, 4), BAD);
        due("extremes", room.blacken(0, 0, LOWEST, HIGHEST), BAD);
        due("at the end", room.blacken(0, 0, 10, 11), BAD);
        sees(room, 0, 0, 0, "0123456789");
        due("first", room.blacken(0, 0, 0, 1), 1);
        due("last", room.blacken(0, 0, 9, 10), 2);
        due("middle", room.blacken(0, 0, 4, 6), 4);
        due("over it", room.blacken(0, 0, 5, 8), 6);
        due("again", room.blacken(0, 0, 5, 8), 6);
        sees(room, 1, 0, 0, "#123####8#");
        sees(room, 1, 0, 1, "abc");
        due("other version", room.blacken(0, 1, 0, 3), 3);
        sees(room, 1, 0, 1, "###");
        due("whole", room.blacken(0, 0, 0, 10), 10);
        room.withdraw(0);
        add(room, 0, 0, 0, "new");
        due("of a withdrawn one", room.blacken(0, 0, 1, 2), 10);
        sees(room, 0, 1, 0, "new");
    }

    private static void withdraw() {
        PaperRoom room = openRoom();
        due("no paper", room.withdraw(0), BAD);
        add(room, 0, 0, 0, "a");
        add(room, 1, 0, 0, "b");
        due("-1", room.withdraw(-1), BAD);
        due("2", room.withdraw(2), BAD);
        due("8", room.withdraw(8), BAD);
        due("1", room.withdraw(1), 1);
        due("it is", room.withdraw(1), STATE);
        due("told", room.about(1, 3), 1);
        due("the other is not", room.about(0, 3), 0);
        due("may the other", room.may(0, 0), 1);
        due("may not", room.may(0, 1), 0);
        due("still counted", room.count(0), 2);
    }

    private static void rights() {
        PaperRoom room = new PaperRoom();
        for (int folder = 0; folder < 4; folder++) {
            add(room, 0, folder, 0, "x");
        }
        due("group -1", room.rights(-1, 0, 0, 1), BAD);
        due("group 3", room.rights(3, 0, 0, 1), BAD);
        due("folder -1", room.rights(0, -1, 0, 1), BAD);
        due("folder 4", room.rights(0, 4, 0, 1), BAD);
        due("from -1", room.rights(0, 0, -1, 1), BAD);
        due("from above", room.rights(0, 0, 1000001, 1), BAD);
        due("before -1", room.rights(0, 0, 0, -1), BAD);
        due("before above", room.rights(0, 0, 0, 1000001), BAD);
        due("highest", room.rights(0, 0, 0, HIGHEST), BAD);
        for (int folder = 0; folder < 4; folder++) {
            for (int bidder = 0; bidder < 6; bidder++) {
                due("nothing changed", room.may(bidder, folder), 0);
            }
        }
        due("one pair", room.rights(1, 2, 0, 1), 1);
        for (int folder = 0; folder < 4; folder++) {
            for (int bidder = 0; bidder < 6; bidder++) {
                due("may(" + bidder + ", " + folder + ")", room.may(bidder, folder),
                        bidder % 3 == 1 && folder == 2 ? 1 : 0);
            }
        }
        due("widest", room.rights(2, 3, 0, 1000000), 1);
        due("may", room.may(5, 3), 1);
        due("from above before", room.rights(2, 3, 1000000, 0), 1);
        due("never", room.may(5, 3), 0);
        due("from is before", room.rights(2, 3, 0, 0), 1);
        due("never", room.may(2, 3), 0);
        due("later", room.rights(0, 0, 3, 5), 1);
        due("at 0", room.may(0, 0), 0);
        room.tick(2);
        due("at 2", room.may(0, 0), 0);
        room.tick(1);
        due("at 3", room.may(0, 0), 1);
        room.tick(1);
        due("at 4", room.may(0, 0), 1);
        room.tick(1);
        due("at 5", room.may(0, 0), 0);
    }

    private static void tick() {
        PaperRoom room = new PaperRoom();
        due("0", room.tick(0), BAD);
        due("-1", room.tick(-1), BAD);
        due("1001", room.tick(1001), BAD);
        due("lowest", room.tick(LOWEST), BAD);
        due("highest", room.tick(HIGHEST), BAD);
        due("now", room.count(1), 0);
        due("1", room.tick(1), 1);
        due("1000", room.tick(1000), 1001);
        due("7", room.tick(7), 1008);
        due("now", room.count(1), 1008);
    }

    private static void about() {
        PaperRoom room = new PaperRoom();
        due("no paper", room.about(0, 0), BAD);
        add(room, 0, 3, 9, "a");
        add(room, 1, 2, 9, "b");
        add(room, 2, 1, 9, "c");
        revise(room, 2, "d");
        room.withdraw(1);
        int[][] want = {{0, 3, 1, 0, 0}, {1, 2, 1, 1, 9}, {2, 1, 2, 0, 0}};
        for (int paper = 0; paper < 3; paper++) {
            for (int what = 0; what < 5; what++) {
                due("about(" + paper + ", " + what + ")", room.about(paper, what), want[paper][what]);
            }
        }
        due("what -1", room.about(0, -1), BAD);
        due("what 5", room.about(0, 5), BAD);
        due("paper -1", room.about(-1, 0), BAD);
        due("paper 3", room.about(3, 0), BAD);
        due("paper 8", room.about(8, 0), BAD);
        due("extremes", room.about(HIGHEST, LOWEST), BAD);
    }

    private static void may() {
        PaperRoom room = new PaperRoom();
        add(room, 0, 0, 0, "plain");
        add(room, 1, 0, 4, "held");
        add(room, 2, 0, 4, "marked");
        room.rights(0, 0, 2, 6);
        int[][] want = {{0, 0, 0}, {0, 0, 0}, {1, 0, 1}, {1, 0, 1}, {1, 1, 1}, {1, 1, 1}, {0, 0, 0}};
        for (int now = 0; now < want.length; now++) {
            for (int paper = 0; paper < 3; paper++) {
                due("may(0, " + paper + ") at " + now, room.may(0, paper), want[now][paper]);
                due("may(3, " + paper + ") at " + now, room.may(3, paper), want[now][paper]);
                due("may(4, " + paper + ") at " + now, room.may(4, paper), 0);
            }
            room.tick(1);
        }
        room.rights(0, 0, 0, 100);
        due("again", room.may(3, 1), 1);
        for (int paper = 0; paper < 3; paper++) {
            room.withdraw(paper);
            due("withdrawn", room.may(0, paper), 0);
        }
        due("bidder -1", room.may(-1, 0), BAD);
        due("bidder 6", room.may(6, 0), BAD);
        due("paper -1", room.may(0, -1), BAD);
        due("paper 3", room.may(0, 3), BAD);
        due("paper 8", room.may(0, 8), BAD);
    }

    private static void read() {
        PaperRoom room = openRoom();
        add(room, 2, 1, 0, " a b c d ");
        sees(room, 0, 0, 0, " a b c d ");
        sees(room, 1, 0, 0, "  a b c  d ");
        sees(room, 2, 0, 0, " a  b c d  ");
        sees(room, 3, 0, 0, "  a  b c  d  ");
        sees(room, 4, 0, 0, " a b  c d ");
        sees(room, 5, 0, 0, "  a b  c  d ");
        room.blacken(0, 0, 2, 4);
        sees(room, 1, 0, 0, "  a## c d  ");
        sees(room, 2, 0, 0, " a##  c d ");
        revise(room, 0, "#  #");
        sees(room, 3, 0, 1, "#    #");
        add(room, 1, 1, 0, "a b c");
        sees(room, 5, 1, 0, "a b c");
        add(room, 0, 1, 0, "a b c");
        sees(room, 5, 2, 0, "a b c");
        int entries = room.count(3);
        due("bidder -1", room.read(-1, 0, 0), BAD);
        due("bidder 6", room.read(6, 0, 0), BAD);
        due("paper -1", room.read(0, -1, 0), BAD);
        due("paper 3", room.read(0, 3, 0), BAD);
        due("version -1", room.read(0, 0, -1), BAD);
        due("version 2", room.read(0, 0, 2), BAD);
        due("version 4", room.read(0, 0, 4), BAD);
        room.withdraw(2);
        due("withdrawn", room.read(0, 2, 0), NO);
        due("BAD before NO", room.read(0, 2, 1), BAD);
        room.rights(2, 1, 0, 0);
        due("no rights", room.read(5, 1, 0), NO);
        due("refused ones are not logged", room.count(3), entries);
        add(room, 1, 0, 3, "held");
        due("held", room.read(0, 3, 0), NO);
        room.tick(3);
        sees(room, 0, 3, 0, "held");
        due("logged", room.count(3), entries + 1);
    }

    private static void at() {
        PaperRoom room = openRoom();
        add(room, 2, 0, 0, "to be");
        due("nothing read", room.at(1, 0), NONE);
        room.read(1, 0, 0);
        due("first", room.at(1, 0), 't');
        due("last", room.at(1, 5), 'e');
        due("behind", room.at(1, 6), NONE);
        due("-1", room.at(1, -1), NONE);
        due("lowest", room.at(1, LOWEST), NONE);
        due("highest", room.at(1, HIGHEST), NONE);
        due("another's", room.at(2, 0), NONE);
        due("bidder -1", room.at(-1, 0), BAD);
        due("bidder 6", room.at(6, 0), BAD);
        due("bidder before i", room.at(6, -1), BAD);
        room.blacken(0, 0, 0, 5);
        due("as it was read", room.at(1, 0), 't');
        names(room, 0, 0, "x");
        revise(room, 0, "x");
        room.withdraw(0);
        due("NO", room.read(1, 0, 0), NO);
        due("stays", lastView(room, 1).equals("to  be") ? 1 : 0, 1);
        add(room, 0, 0, 0, "short");
        room.read(1, 1, 0);
        due("latest", room.at(1, 0), 's');
        due("behind the shorter one", room.at(1, 5), NONE);
        room.read(2, 1, 0);
        due("bidder 2", room.at(2, 4), 't');
    }

    private static void search() {
        PaperRoom room = openRoom();
        due("empty", room.search(0), STATE);
        due("BAD before STATE", room.search(6), BAD);
        due("bidder -1", room.search(-1), BAD);
        due("no papers", finds(room, 0, "a"), 0);
        add(room, 0, 0, 0, "the aab house");
        add(room, 1, 0, 5, "the held house");
        add(room, 2, 1, 0, "a marked house");
        due("two of three", finds(room, 0, "house"), 2);
        due("draft stays", room.count(2), 5);
        room.tick(5);
        due("let go", finds(room, 0, "house"), 3);
        due("overlapping start", finds(room, 0, "ab "), 1);
        due("at the start", finds(room, 0, "the "), 2);
        due("whole text", finds(room, 0, "the aab house"), 1);
        due("longer than the text", finds(room, 0, "the aab house!"), 0);
        due("over the end", finds(room, 0, "houses"), 0);
        due("plain, not the copy", finds(room, 1, "a  marked"), 0);
        due("plain, not the copy", finds(room, 1, "a marked"), 1);
        due("once a paper", finds(room, 0, "e"), 3);
        room.rights(0, 1, 0, 0);
        due("no rights", finds(room, 3, "house"), 2);
        due("others", finds(room, 4, "house"), 3);
        room.withdraw(0);
        due("withdrawn", finds(room, 4, "house"), 2);
        revise(room, 1, "new # text");
        due("latest alone", finds(room, 4, "house"), 1);
        due("a # of the text", finds(room, 4, "# t"), 1);
        room.blacken(1, 1, 4, 5);
        due("a # of the text that is black", finds(room, 4, "#"), 0);
        room.blacken(1, 1, 0, 1);
        due("black letter", finds(room, 4, "new"), 0);
        due("white part", finds(room, 4, "ew"), 1);
        due("# for a black one", finds(room, 4, "#ew"), 0);
        room.blacken(1, 0, 0, 14);
        due("an older version's black", finds(room, 4, "text"), 1);
        add(room, 0, 0, 0, "abcdefghijklmnopqrstuvwxyz");
        due("20", finds(room, 4, "ghijklmnopqrstuvwxyz"), 1);
        due("21", finds(room, 4, "fghijklmnopqrstuvwxyz"), STATE);
        due("BAD before STATE", room.search(6), BAD);
        due("no entries", room.count(3), 0);
    }

    private static void named() {
        PaperRoom room = new PaperRoom();
        add(room, 2, 0, 0, "a b c d");
        due("empty", room.named(0, 0), STATE);
        due("all", names(room, 0, 0, "a"), 63);
        due("bit 0", names(room, 0, 0, "a  b"), 42);
        due("not bit 0", names(room, 0, 0, "a b"), 21);
        due("bits 0, 1", names(room, 0, 0, "a  b  c"), 8);
        due("whole of 0", names(room, 0, 0, "a b c d"), 1);
        due("whole of 5", names(room, 0, 0, "a  b c  d"), 32);
        due("beyond", names(room, 0, 0, "a b c dd"), 0);
        due("not at the start", names(room, 0, 0, "b"), 0);
        due("draft stays", room.count(2), 1);
        due("more than 20", names(room, 0, 0, "a b c d e f g h i j k l"), 0);
        revise(room, 0, "abcdefghijklmnopqrstuv w");
        due("more than 20", names(room, 0, 1, "abcdefghijklmnopqrstuv  w"), 42);
        room.blacken(0, 0, 1, 2);
        due("a black one as #", names(room, 0, 0, "a#b "), 63);
        due("the next space is the first", names(room, 0, 0, "a#b  c"), 42);
        due("what is black", names(room, 0, 0, "a "), 0);
        room.withdraw(0);
        due("withdrawn", names(room, 0, 0, "a#"), 63);
        add(room, 0, 0, 0, "a b");
        add(room, 1, 0, 0, "a b");
        due("of a PAPER", names(room, 1, 0, "a"), BAD);
        due("of a HELD one", names(room, 2, 0, "a"), BAD);
        due("paper -1", room.named(-1, 0), BAD);
        due("paper 3", room.named(3, 0), BAD);
        due("version -1", room.named(0, -1), BAD);
        due("version 2", room.named(0, 2), BAD);
        room.clear();
        due("BAD before STATE", room.named(1, 0), BAD);
        due("BAD before STATE", room.named(0, 2), BAD);
        due("no entries", room.count(3), 0);
        due("no view", room.at(0, 0), NONE);
    }

    private static void log() {
        PaperRoom room = openRoom();
        due("empty", room.log(0, 0), BAD);
        add(room, 0, 0, 0, "a");
        add(room, 0, 0, 0, "b");
        revise(room, 1, "c");
        room.tick(9);
        room.read(4, 1, 1);
        room.tick(4);
        room.read(2, 0, 0);
        int[][] want = {{9, 4, 1, 1}, {13, 2, 0, 0}};
        for (int i = 0; i < 2; i++) {
            for (int what = 0; what < 4; what++) {
                due("log(" + i + ", " + what + ")", room.log(i, what), want[i][what]);
            }
        }
        due("-1", room.log(-1, 0), BAD);
        due("2", room.log(2, 0), BAD);
        due("what -1", room.log(0, -1), BAD);
        due("what 4", room.log(0, 4), BAD);
        due("extremes", room.log(HIGHEST, LOWEST), BAD);
        for (int i = 2; i < 200; i++) {
            room.read(1, 1, 0);
        }
        due("200", room.count(3), 200);
        due("none lost", room.count(4), 0);
        room.tick(1);
        sees(room, 5, 1, 1, "c");
        due("still 200", room.count(3), 200);
        due("one lost", room.count(4), 1);
        due("last", room.log(199, 1), 1);
        due("beyond", room.log(200, 0), BAD);
        room.read(5, 1, 1);
        due("two lost", room.count(4), 2);
    }

    private static void chain() {
        PaperRoom room = openRoom();
        due("empty", room.chain(0), 0);
        for (int paper = 0; paper < 3; paper++) {
            add(room, 0, 0, 0, "a");
            revise(room, paper, "b");
        }
        long want = 7;
        int now = 0;
        for (int i = 0; i < 200; i++) {
            int bidder = i % 6, paper = i % 3, version = i % 2;
            if (i % 10 == 0) {
                now = room.tick(1000);
            }
            room.read(bidder, paper, version);
            want = 31 * want + 1000L * now + 100 * bidder + 10 * paper + version;
            due("chain(" + i + ")", room.chain(i), want);
        }
        room.read(0, 0, 0);
        due("200", room.chain(200), 0);
        due("199", room.chain(199), want);
        due("first", room.chain(0), 31 * 7 + 1000000);
        due("-1", room.chain(-1), 0);
        due("lowest", room.chain(LOWEST), 0);
        due("highest", room.chain(HIGHEST), 0);
    }

    private static void times() {
        PaperRoom room = openRoom();
        due("no paper", room.times(0, 0, 0), BAD);
        add(room, 0, 0, 0, "a");
        add(room, 0, 0, 0, "b");
        revise(room, 1, "c");
        due("none", room.times(0, 0, 0), 0);
        room.read(0, 0, 0);
        room.read(3, 0, 0);
        room.read(0, 1, 0);
        room.tick(1);
        room.read(0, 1, 1);
        room.read(0, 1, 1);
        due("0 0 0", room.times(0, 0, 0), 1);
        due("3 0 0", room.times(3, 0, 0), 1);
        due("0 1 0", room.times(0, 1, 0), 1);
        due("0 1 1", room.times(0, 1, 1), 2);
        due("3 1 1", room.times(3, 1, 1), 0);
        room.withdraw(1);
        due("refused", room.read(0, 1, 1), NO);
        due("of a withdrawn one", room.times(0, 1, 1), 2);
        due("bidder -1", room.times(-1, 0, 0), BAD);
        due("bidder 6", room.times(6, 0, 0), BAD);
        due("paper -1", room.times(0, -1, 0), BAD);
        due("paper 2", room.times(0, 2, 0), BAD);
        due("version -1", room.times(0, 0, -1), BAD);
        due("version 1", room.times(0, 0, 1), BAD);
        for (int i = 5; i < 210; i++) {
            room.read(3, 0, 0);
        }
        due("by the log", room.times(3, 0, 0), 196);
        room.read(5, 0, 0);
        due("lost ones are not in it", room.times(5, 0, 0), 0);
    }

    private static void ask() {
        PaperRoom room = openRoom();
        due("no paper", room.ask(0, 0, 0), BAD);
        for (int paper = 0; paper < 4; paper++) {
            add(room, 0, paper, 0, "x");
        }
        due("bidder -1", room.ask(-1, 0, 0), BAD);
        due("bidder 6", room.ask(6, 0, 0), BAD);
        due("paper -1", room.ask(0, -1, 0), BAD);
        due("paper 4", room.ask(0, 4, 0), BAD);
        due("topic -1", room.ask(0, 0, -1), BAD);
        due("topic 10", room.ask(0, 0, 10), BAD);
        due("no question came", room.count(5), 0);
        due("first", room.ask(0, 0, 0), 0);
        due("another topic", room.ask(0, 0, 9), 1);
        due("third", room.ask(0, 1, 0), STATE);
        due("third, to join", room.ask(0, 0, 0), STATE);
        due("BAD before STATE", room.ask(0, 0, 10), BAD);
        due("another paper", room.ask(1, 1, 0), 2);
        due("joined", room.ask(1, 0, 9), 1);
        due("askers", room.question(1, 2), 3);
        room.rights(0, 0, 0, 0);
        due("NO before STATE", room.ask(0, 0, 0), NO);
        due("of the same group", room.ask(3, 0, 0), NO);
        due("refused ones do not count", room.ask(3, 1, 0), 2);
        due("twice the same", room.ask(3, 1, 0), 2);
        due("counts too", room.ask(3, 1, 0), STATE);
        due("askers", room.question(2, 2), 10);
        room.rights(0, 0, 0, 1000000);
        room.withdraw(3);
        due("withdrawn", room.ask(4, 3, 0), NO);
        due("three", room.count(5), 3);
        room.tick(1);
        due("next tick", room.ask(0, 0, 0), 0);
        for (int i = 3; i < 30; i++) {
            room.tick(1);
            due("new", room.ask(i % 6, newPaperOf(i), newTopicOf(i)), i);
        }
        due("30", room.count(5), 30);
        add(room, 0, 0, 0, "another");
        room.tick(1);
        due("31st", room.ask(5, 4, 5), FULL);
        due("31st again", room.ask(5, 4, 5), FULL);
        due("refused ones do not count", room.ask(5, 0, 9), 1);
        due("joined, though full", room.ask(5, 0, 0), 0);
        due("STATE before FULL", room.ask(5, 4, 5), STATE);
        due("still 30", room.count(5), 30);
    }

    /** Questions 3 .. 29 are of papers 0 .. 2, topics 1 .. 9, but 27 (paper 0, topic 9 is there). */
    private static int newPaperOf(int question) {
        return question == 27 ? 2 : (question - 3) % 3;
    }

    private static int newTopicOf(int question) {
        return question == 27 ? 0 : (question - 3) / 3 + 1;
    }

    private static void answer() {
        PaperRoom room = openRoom();
        due("no question", room.answer(0, 0, true), BAD);
        add(room, 0, 0, 0, "x");
        for (int bidder = 0; bidder < 6; bidder++) {
            room.ask(bidder, 0, 0);
            if (bidder % 2 == 1) {
                room.ask(bidder, 0, 1);
            }
        }
        due("-1", room.answer(-1, 0, true), BAD);
        due("2", room.answer(2, 0, true), BAD);
        due("30", room.answer(30, 0, true), BAD);
        due("v -1", room.answer(0, -1, true), BAD);
        due("v 1000", room.answer(0, 1000, true), BAD);
        due("extremes", room.answer(HIGHEST, LOWEST, false), BAD);
        due("none yet", room.question(0, 3), 0);
        due("0", room.answer(0, 0, true), 6);
        due("again", room.answer(0, 1, false), STATE);
        due("BAD before STATE", room.answer(0, 1000, false), BAD);
        due("stays", room.hear(0, 0), 0);
        due("for all", room.question(0, 3), 2);
        room.withdraw(0);
        due("of a withdrawn one, 999", room.answer(1, 999, false), 3);
        due("for askers", room.question(1, 3), 1);
    }

    private static void hear() {
        PaperRoom room = openRoom();
        due("no question", room.hear(0, 0), BAD);
        add(room, 0, 0, 0, "x");
        add(room, 1, 0, 3, "y");
        room.ask(0, 0, 0);
        room.ask(1, 0, 1);
        due("bidder -1", room.hear(-1, 0), BAD);
        due("bidder 6", room.hear(6, 0), BAD);
        due("question -1", room.hear(0, -1), BAD);
        due("question 2", room.hear(0, 2), BAD);
        due("question 30", room.hear(0, 30), BAD);
        due("none yet", room.hear(0, 0), STATE);
        due("none yet, of another", room.hear(2, 0), STATE);
        room.rights(2, 0, 0, 0);
        due("NO before STATE", room.hear(2, 0), NO);
        room.answer(0, 123, false);
        room.answer(1, 999, true);
        due("the asker", room.hear(0, 0), 123);
        due("not for it", room.hear(3, 0), NO);
        due("for all", room.hear(3, 1), 999);
        due("no rights", room.hear(5, 1), NO);
        due("joined later", room.ask(3, 0, 0), 0);
        due("told then", room.hear(3, 0), 123);
        due("answered still", room.question(0, 3), 1);
        room.rights(0, 0, 0, 0);
        due("no rights now", room.hear(0, 0), NO);
        room.rights(0, 0, 0, 100);
        due("again", room.hear(0, 0), 123);
        room.tick(3);
        due("of a held one", room.ask(4, 1, 4), 2);
        room.answer(2, 0, false);
        due("0", room.hear(4, 2), 0);
        room.withdraw(0);
        due("withdrawn", room.hear(0, 0), NO);
        due("the other is not", room.hear(4, 2), 0);
    }

    private static void question() {
        PaperRoom room = openRoom();
        due("none", room.question(0, 0), BAD);
        add(room, 0, 0, 0, "x");
        add(room, 2, 0, 0, "y");
        room.ask(5, 1, 7);
        room.ask(2, 0, 7);
        room.ask(0, 1, 7);
        room.answer(0, 50, true);
        int[][] want = {{1, 7, 33, 2}, {0, 7, 4, 0}};
        for (int i = 0; i < 2; i++) {
            for (int what = 0; what < 4; what++) {
                due("question(" + i + ", " + what + ")", room.question(i, what), want[i][what]);
            }
        }
        room.answer(1, 50, false);
        due("for askers", room.question(1, 3), 1);
        due("-1", room.question(-1, 0), BAD);
        due("2", room.question(2, 0), BAD);
        due("30", room.question(30, 0), BAD);
        due("what -1", room.question(0, -1), BAD);
        due("what 4", room.question(0, 4), BAD);
        due("extremes", room.question(HIGHEST, LOWEST), BAD);
    }

    private static void count() {
        PaperRoom room = openRoom();
        add(room, 0, 0, 0, "x");
        add(room, 0, 0, 0, "x");
        room.tick(17);
        for (int i = 0; i < 204; i++) {
            room.read(0, 0, 0);
        }
        room.ask(0, 0, 0);
        room.ask(1, 0, 0);
        write(room, "12345");
        int[] want = {2, 17, 5, 200, 4, 1};
        for (int what = 0; what < want.length; what++) {
            due("count(" + what + ")", room.count(what), want[what]);
        }
        due("-1", room.count(-1), BAD);
        due("6", room.count(6), BAD);
        due("lowest", room.count(LOWEST), BAD);
        due("highest", room.count(HIGHEST), BAD);
    }

    private static void trace() {
        PaperRoom room = new PaperRoom();
        add(room, 0, 0, 0, "x");
        add(room, 1, 0, 5, "x");
        add(room, 2, 0, 0, "x");
        due("none", room.trace(), 0);
        room.may(0, 0);
        due("PAPER, no rights", room.trace(), 1);
        room.may(0, 1);
        due("HELD, no rights", room.trace(), 12);
        room.may(0, 2);
        due("MARKED, no rights", room.trace(), 113);
        room.rights(0, 0, 0, 100);
        room.may(0, 1);
        due("HELD, before its tick", room.trace(), 124);
        room.may(1, 2);
        room.may(0, 0);
        room.withdraw(1);
        room.may(0, 1);
        due("withdrawn too", room.trace(), 237);
        room.may(6, 0);
        room.may(-1, 2);
        room.may(0, 3);
        room.may(0, -1);
        due("not of BAD", room.trace(), 237);
        room.read(0, 0, 0);
        room.read(1, 0, 0);
        room.read(0, 2, 0);
        room.ask(0, 2, 0);
        room.answer(0, 1, true);
        room.hear(0, 0);
        finds(room, 0, "x");
        names(room, 2, 0, "x");
        room.times(0, 0, 0);
        due("of may() alone", room.trace(), 237);
    }
}
