import java.util.ArrayList;
import java.util.List;
import java.util.Random;

/**
 * Long walks of calls with good, edgy and wild numbers, always the same ones. Each answer is held
 * against a slow model of the document, and against a twin room that is spared the refused calls:
 * it must answer alike, since a refused call changes nothing.
 */
public final class PaperRoomWalks {
    private static final int WALKS = 1500;
    private static final int CALLS = 512;
    private static final int LONG_WALKS = 4;
    private static final int MANY_CALLS = 20_000;
    /** So many of the longest steps bring NOW beyond what an int holds. */
    private static final int STEPS_TO_WRAP = 2_200_000;
    private static final int[] WILD = {Integer.MIN_VALUE, -1000, -9, -1, 1001, 1000001, Integer.MAX_VALUE};

    private static int wrong = 0;

    public static void main(String[] args) {
        Watch.start();
        int[] refused = new int[5];
        for (int walk = 0; walk < WALKS && wrong < 20; walk++) {
            walk(new Random(walk), walk, refused);
        }
        for (int walk = 0; walk < LONG_WALKS && wrong < 20; walk++) {
            longWalk(new Random(walk), walk);
        }
        for (int i = 1; i < refused.length; i++) {
            if (refused[i] == 0) {
                wrong++;
                System.out.println("no walk met the refusal -" + i);
            }
        }
        System.out.println(wrong == 0 ? "all walks are as due" : wrong + " answers are not as due");
        if (wrong != 0) {
            System.exit(1);
        }
    }

    private static void walk(Random random, int walk, int[] refused) {
        PaperRoom room = new PaperRoom();
        PaperRoom twin = new PaperRoom();
        Model model = new Model();
        boolean generous = walk % 3 != 0;
        for (int i = 0; i < CALLS; i++) {
            Call call = generous && i < 12 ? Call.grant(i) : Call.any(random);
            long want = call.on(model);
            long got;
            try {
                got = call.on(room);
            } catch (RuntimeException thrown) {
                wrong++;
                System.out.println("walk " + walk + ", call " + i + ": " + call + " threw " + thrown);
                return;
            }
            boolean isRefused = want < 0 && want >= -4 && !call.name.equals("chain");
            if (isRefused) {
                refused[(int) -want]++;
            }
            if (got != want || !isRefused && call.on(twin) != want) {
                wrong++;
                System.out.println("walk " + walk + ", call " + i + ": " + call + " answered " + got
                        + ", due is " + want + " (or the twin differs)");
                return;
            }
        }
    }

    /**
     * What calls beyond the 512th answer is free, but LANGUAGE.md lets none of them throw (rule 7):
     * not in a room that is full of everything, and not where NOW has wrapped.
     */
    private static void longWalk(Random random, int walk) {
        PaperRoom room = new PaperRoom();
        Call call = null;
        try {
            for (int i = 0; i < MANY_CALLS; i++) {
                call = i < 12 ? Call.grant(i) : Call.any(random);
                call.on(room);
                if (i == MANY_CALLS / 2) {
                    longSteps(room);
                }
            }
        } catch (RuntimeException thrown) {
            wrong++;
            System.out.println("long walk " + walk + ": " + call + " threw " + thrown);
        }
    }

    private static void longSteps(PaperRoom room) {
        for (int i = 0; i < STEPS_TO_WRAP; i++) {
            room.tick(1000);
        }
    }

    /** The calls, so that a room and the model can be given the same one. */
    private interface Face {
        long call(String name, long v, int a, int b, int c, int d, boolean all);
    }

    private static final class Call {
        private static final String[] NAMES = {
            "type", "type", "type", "type", "type", "clear", "paper", "paper", "version", "version",
            "blacken", "blacken", "withdraw", "rights", "rights", "tick", "about", "may", "may",
            "read", "read", "read", "read", "read", "read", "read", "at", "at", "at", "search", "search",
            "named", "named", "log", "chain", "times", "ask", "ask", "ask", "ask", "answer", "hear", "hear",
            "question", "count", "trace",
        };

        private final String name;
        private long v;
        private int a;
        private int b;
        private int c;
        private int d;
        private boolean all;

        private Call(String name) {
            this.name = name;
        }

        static Call grant(int i) {
            Call call = new Call("rights");
            call.a = i % 3;
            call.b = i / 3;
            call.d = 1000000;
            return call;
        }

        static Call any(Random random) {
            Call call = new Call(NAMES[random.nextInt(NAMES.length)]);
            call.fill(random);
            if (random.nextInt(12) == 0) {
                int wild = WILD[random.nextInt(WILD.length)];
                switch (random.nextInt(4)) {
                    case 0 -> call.a = wild;
                    case 1 -> call.b = wild;
                    case 2 -> call.c = wild;
                    default -> call.d = wild;
                }
            }
            return call;
        }

        private void fill(Random random) {
            all = random.nextBoolean();
            switch (name) {
                case "type" -> {
                    b = random.nextInt(60) == 0 ? random.nextInt(12) - 1 : 1 + random.nextInt(random.nextBoolean() ? 3 : 8);
                    v = bytes(random);
                }
                case "paper" -> { a = random.nextInt(3); b = random.nextInt(4); c = random.nextInt(20); }
                case "blacken" -> { a = few(random, 8); b = few(random, 4); c = random.nextInt(12); d = random.nextInt(16); }
                case "withdraw" -> a = random.nextInt(3) == 0 ? random.nextInt(9) : 8;
                case "rights" -> { a = random.nextInt(4); b = random.nextInt(5); c = random.nextInt(30); d = random.nextInt(1000); }
                case "tick" -> a = random.nextInt(20) == 0 ? random.nextInt(1003) - 1 : random.nextInt(4);
                case "about", "question" -> { a = few(random, 8); b = random.nextInt(6); }
                case "at" -> { a = random.nextInt(6); b = random.nextInt(14) - 1; }
                case "log", "chain" -> { a = random.nextInt(random.nextBoolean() ? 20 : 205) - 1; b = random.nextInt(5); }
                case "ask" -> { a = random.nextInt(6); b = few(random, 8); c = random.nextInt(10); }
                case "answer" -> { a = few(random, 30); b = random.nextInt(1001); }
                case "hear" -> { a = random.nextInt(6); b = few(random, 30); }
                case "count" -> a = random.nextInt(8) - 1;
                case "named", "version" -> { a = few(random, 8); b = few(random, 4); }
                default -> { a = random.nextInt(60) == 0 ? 6 : random.nextInt(6); b = few(random, 8); c = few(random, 4); }
            }
        }

        private static int few(Random random, int bound) {
            return Math.min(random.nextInt(bound + 1), random.nextInt(bound + 1));
        }

        /** A small alphabet, so that searches find and copies differ. */
        private static long bytes(Random random) {
            String alphabet = "  aab#";
            long made = 0;
            for (int i = 0; i < 8; i++) {
                int next = alphabet.charAt(random.nextInt(alphabet.length()));
                made = made << 8 | (random.nextInt(100) == 0 ? random.nextInt(256) : next);
            }
            return made;
        }

        long on(Face face) {
            return face.call(name, v, a, b, c, d, all);
        }

        long on(PaperRoom room) {
            return switch (name) {
                case "type" -> room.type(v, b);
                case "clear" -> room.clear();
                case "paper" -> room.paper(a, b, c);
                case "version" -> room.version(a);
                case "blacken" -> room.blacken(a, b, c, d);
                case "withdraw" -> room.withdraw(a);
                case "rights" -> room.rights(a, b, c, d);
                case "tick" -> room.tick(a);
                case "about" -> room.about(a, b);
                case "may" -> room.may(a, b);
                case "read" -> room.read(a, b, c);
                case "at" -> room.at(a, b);
                case "search" -> room.search(a);
                case "named" -> room.named(a, b);
                case "log" -> room.log(a, b);
                case "chain" -> room.chain(a);
                case "times" -> room.times(a, b, c);
                case "ask" -> room.ask(a, b, c);
                case "answer" -> room.answer(a, b, all);
                case "hear" -> room.hear(a, b);
                case "question" -> room.question(a, b);
                case "count" -> room.count(a);
                default -> room.trace();
            };
        }

        @Override
        public String toString() {
            return name + " v=" + v + " a=" + a + " b=" + b + " c=" + c + " d=" + d + " all=" + all;
        }
    }

    private record Span(int version, int from, int to) { }

    private record Entry(int tick, int bidder, int paper, int version) { }

    private record Asking(int tick, int bidder, int question) { }

    private record Answer(int question, int v, boolean all) { }

    private static final class Paper {
        int kind;
        int folder;
        int tick;
        boolean withdrawn;
        final List<String> texts = new ArrayList<>();
        final List<Span> spans = new ArrayList<>();

        boolean isBlack(int version, int i) {
            return spans.stream().anyMatch(s -> s.version == version && i >= s.from && i < s.to);
        }

        int black(int version) {
            int found = 0;
            for (int i = 0; i < texts.get(version).length(); i++) {
                found += isBlack(version, i) ? 1 : 0;
            }
            return found;
        }

        /** Black bytes as the sign that is asked for: # to be seen, another one to be never found. */
        String plain(int version, char sign) {
            StringBuilder text = new StringBuilder(texts.get(version));
            for (int i = 0; i < text.length(); i++) {
                if (isBlack(version, i)) {
                    text.setCharAt(i, sign);
                }
            }
            return text.toString();
        }

        String view(int version, int bidder) {
            if (kind != 2) {
                return plain(version, '#');
            }
            StringBuilder text = new StringBuilder();
            int k = 0;
            for (char b : plain(version, '#').toCharArray()) {
                text.append(b);
                if (b == ' ') {
                    text.append((bidder & 1 << k) != 0 ? " " : "");
                    k = (k + 1) % 3;
                }
            }
            return text.toString();
        }
    }

    /** The document in its plainest form: lists of what happened, looked through at each call. */
    private static final class Model implements Face {
        private static final long BAD = -1, STATE = -2, FULL = -3, NO = -4, NONE = -9;

        private String draft = "";
        private int now = 0;
        private int reads = 0;
        private long traced = 0;
        private final int[][] from = new int[3][4];
        private final int[][] before = new int[3][4];
        private final List<Paper> papers = new ArrayList<>();
        private final String[] views = {"", "", "", "", "", ""};
        private final List<Entry> entries = new ArrayList<>();
        private final List<int[]> questions = new ArrayList<>();
        private final List<Asking> askings = new ArrayList<>();
        private final List<Answer> answers = new ArrayList<>();

        @Override
        public long call(String name, long v, int a, int b, int c, int d, boolean all) {
            return switch (name) {
                case "type" -> typed(v, b);
                case "clear" -> { long had = draft.length(); draft = ""; yield had; }
                case "paper" -> added(a, b, c);
                case "version" -> revised(a);
                case "blacken" -> blackened(a, b, c, d);
                case "withdraw" -> withdrawn(a);
                case "rights" -> granted(a, b, c, d);
                case "tick" -> a < 1 || a > 1000 ? BAD : (now += a);
                case "about" -> about(a, b);
                case "may" -> asked(a, b);
                case "read" -> shown(a, b, c);
                case "at" -> !in(a, 6) ? BAD : in(b, views[a].length()) ? views[a].charAt(b) : NONE;
                case "search" -> searched(a);
                case "named" -> namedBy(a, b);
                case "log" -> logged(a, b);
                case "chain" -> in(a, entries.size()) ? linked(a) : 0;
                case "times" -> !in(a, 6) || !isText(b, c) ? BAD
                        : entries.stream().filter(e -> e.bidder == a && e.paper == b && e.version == c).count();
                case "ask" -> asks(a, b, c);
                case "answer" -> answered(a, b, all);
                case "hear" -> heard(a, b);
                case "question" -> questioned(a, b);
                case "count" -> counted(a);
                default -> traced;
            };
        }

        private static boolean in(int number, int bound) {
            return number >= 0 && number < bound;
        }

        private boolean isPaper(int number) {
            return in(number, papers.size());
        }

        private boolean isText(int paper, int version) {
            return isPaper(paper) && in(version, papers.get(paper).texts.size());
        }

        private boolean open(int bidder, int number) {
            Paper paper = papers.get(number);
            boolean up = !paper.withdrawn && from[bidder % 3][paper.folder] <= now
                    && now < before[bidder % 3][paper.folder];
            return up && (paper.kind != 1 || now >= paper.tick);
        }

        private long typed(long v, int n) {
            if (n < 1 || n > 8) {
                return BAD;
            }
            StringBuilder more = new StringBuilder();
            for (int i = 0; i < n; i++) {
                more.insert(0, (char) (v >> 8 * i & 255));
            }
            if (more.chars().anyMatch(x -> x < 32 || x > 126)) {
                return BAD;
            }
            if (draft.length() + n > 40) {
                return FULL;
            }
            draft += more;
            return draft.length();
        }

        private long added(int kind, int folder, int tick) {
            if (!in(kind, 3) || !in(folder, 4) || kind == 1 && tick < 0) {
                return BAD;
            }
            if (draft.isEmpty()) {
                return STATE;
            }
            if (papers.size() == 8) {
                return FULL;
            }
            Paper paper = new Paper();
            paper.kind = kind;
            paper.folder = folder;
            paper.tick = kind == 1 ? tick : 0;
            paper.texts.add(draft);
            papers.add(paper);
            draft = "";
            return papers.size() - 1;
        }

        private long revised(int number) {
            if (!isPaper(number)) {
                return BAD;
            }
            Paper paper = papers.get(number);
            if (draft.isEmpty() || paper.withdrawn) {
                return STATE;
            }
            if (paper.texts.size() == 4) {
                return FULL;
            }
            paper.texts.add(draft);
            draft = "";
            return paper.texts.size() - 1;
        }

        private long blackened(int number, int version, int start, int end) {
            if (!isText(number, version) || start < 0 || start >= end
                    || end > papers.get(number).texts.get(version).length()) {
                return BAD;
            }
            papers.get(number).spans.add(new Span(version, start, end));
            return papers.get(number).black(version);
        }

        private long withdrawn(int number) {
            if (!isPaper(number)) {
                return BAD;
            }
            if (papers.get(number).withdrawn) {
                return STATE;
            }
            papers.get(number).withdrawn = true;
            return 1;
        }

        private long granted(int group, int folder, int start, int end) {
            if (!in(group, 3) || !in(folder, 4) || !in(start, 1000001) || !in(end, 1000001)) {
                return BAD;
            }
            from[group][folder] = start;
            before[group][folder] = end;
            return 1;
        }

        private long about(int number, int what) {
            if (!isPaper(number) || !in(what, 5)) {
                return BAD;
            }
            Paper paper = papers.get(number);
            return new int[] {paper.kind, paper.folder, paper.texts.size(), paper.withdrawn ? 1 : 0, paper.tick}[what];
        }

        private long asked(int bidder, int number) {
            if (!in(bidder, 6) || !isPaper(number)) {
                return BAD;
            }
            traced += new int[] {1, 11, 101}[papers.get(number).kind];
            return open(bidder, number) ? 1 : 0;
        }

        private long shown(int bidder, int number, int version) {
            if (!in(bidder, 6) || !isText(number, version)) {
                return BAD;
            }
            if (!open(bidder, number)) {
                return NO;
            }
            views[bidder] = papers.get(number).view(version, bidder);
            reads++;
            if (reads <= 200) {
                entries.add(new Entry(now, bidder, number, version));
            }
            return views[bidder].length();
        }

        private long searched(int bidder) {
            if (!in(bidder, 6)) {
                return BAD;
            }
            if (draft.isEmpty() || draft.length() > 20) {
                return STATE;
            }
            long found = 0;
            for (int i = 0; i < papers.size(); i++) {
                Paper paper = papers.get(i);
                String plain = paper.plain(paper.texts.size() - 1, (char) 0);
                found += open(bidder, i) && plain.contains(draft) ? 1 : 0;
            }
            return found;
        }

        private long namedBy(int number, int version) {
            if (!isText(number, version) || papers.get(number).kind != 2) {
                return BAD;
            }
            if (draft.isEmpty()) {
                return STATE;
            }
            long bits = 0;
            for (int bidder = 5; bidder >= 0; bidder--) {
                bits = 2 * bits + (papers.get(number).view(version, bidder).startsWith(draft) ? 1 : 0);
            }
            return bits;
        }

        private long logged(int i, int what) {
            if (!in(i, entries.size()) || !in(what, 4)) {
                return BAD;
            }
            Entry entry = entries.get(i);
            return new int[] {entry.tick, entry.bidder, entry.paper, entry.version}[what];
        }

        private long linked(int i) {
            long link = 7;
            for (Entry e : entries.subList(0, i + 1)) {
                link = 31 * link + 1000L * e.tick + 100L * e.bidder + 10L * e.paper + e.version;
            }
            return link;
        }

        private long asks(int bidder, int number, int topic) {
            if (!in(bidder, 6) || !isPaper(number) || !in(topic, 10)) {
                return BAD;
            }
            if (!open(bidder, number)) {
                return NO;
            }
            if (askings.stream().filter(x -> x.bidder == bidder && x.tick == now).count() >= 2) {
                return STATE;
            }
            int question = 0;
            while (question < questions.size()
                    && (questions.get(question)[0] != number || questions.get(question)[1] != topic)) {
                question++;
            }
            if (question == 30) {
                return FULL;
            }
            if (question == questions.size()) {
                questions.add(new int[] {number, topic});
            }
            askings.add(new Asking(now, bidder, question));
            return question;
        }

        private long askers(int question) {
            long bits = 0;
            for (Asking asking : askings) {
                bits |= asking.question == question ? 1 << asking.bidder : 0;
            }
            return bits;
        }

        private Answer answerTo(int question) {
            return answers.stream().filter(x -> x.question == question).findFirst().orElse(null);
        }

        private long answered(int question, int v, boolean all) {
            if (!in(question, questions.size()) || !in(v, 1000)) {
                return BAD;
            }
            if (answerTo(question) != null) {
                return STATE;
            }
            answers.add(new Answer(question, v, all));
            return Long.bitCount(askers(question));
        }

        private long heard(int bidder, int question) {
            if (!in(bidder, 6) || !in(question, questions.size())) {
                return BAD;
            }
            if (!open(bidder, questions.get(question)[0])) {
                return NO;
            }
            Answer answer = answerTo(question);
            if (answer == null) {
                return STATE;
            }
            return answer.all || (askers(question) >> bidder & 1) == 1 ? answer.v : NO;
        }

        private long questioned(int question, int what) {
            if (!in(question, questions.size()) || !in(what, 4)) {
                return BAD;
            }
            Answer answer = answerTo(question);
            return switch (what) {
                case 2 -> askers(question);
                case 3 -> answer == null ? 0 : answer.all ? 2 : 1;
                default -> questions.get(question)[what];
            };
        }

        private long counted(int what) {
            return switch (what) {
                case 0 -> papers.size();
                case 1 -> now;
                case 2 -> draft.length();
                case 3 -> entries.size();
                case 4 -> reads - entries.size();
                case 5 -> questions.size();
                default -> BAD;
            };
        }
    }
}
