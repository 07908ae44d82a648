/** The edges that the document names of the promises 17 to 20: rulings, rules whom to follow, what is decided. */
public final class RulingEdgesTest extends Pages {
    private RulingEdgesTest() {
    }

    public static void main(String[] args) {
        rulingEnds();
        rulingOnce();
        rulingOfAll();
        followEnds();
        followWhat();
        atMost6Rules();
        unfollowEnds();
        unfollowMovesUp();
        decidedEnds();
        decidedByTheLastRule();
        decidedBySchool();
        decidedByLatest();
        decidedByMost();
        decidedByExcept();
        Check.close();
    }

    /** A page with a rule; then authors by rows of year, school, and what they ruled on the topic 0: 1, 0 or NONE. */
    private static GlossedPage pageWithRule(int kind, int what, int[]... authors) {
        GlossedPage page = new GlossedPage();
        page.follow(kind, what);
        for (int[] author : authors) {
            int number = page.author(author[0], author[1], 0);
            if (author[2] != NONE) {
                page.ruling(number, 0, author[2] == 1);
            }
        }
        return page;
    }

    private static void dueDecided(String what, int due, int kind, int school, int[]... authors) {
        GlossedPage page = pageWithRule(kind, school, authors);
        Check.due("20: " + what, page.decided(0), due);
        Check.due("20: " + what + ", of another topic", page.decided(1), NONE);
    }

    private static int[] by(int year, int school, int is) {
        return new int[] {year, school, is};
    }

    // ---- 17: ruling

    private static void rulingEnds() {
        GlossedPage page = new GlossedPage();
        Check.fails("17: no author", INDEX, () -> page.ruling(0, 0, true));
        for (int author = 0; author < 12; author++) {
            page.author(0, 0, 0);
        }
        Check.due("17: the first author, the first topic", page.ruling(0, 0, true), 1);
        Check.due("17: the last author, the last topic", page.ruling(11, 9, true), 1);
        Check.due("17: the last author, the first topic", page.ruling(11, 0, true), 2);
        Check.due("17: the first author, the last topic", page.ruling(0, 9, true), 2);
        Check.fails("17: author -1", INDEX, () -> page.ruling(-1, 0, true));
        Check.fails("17: author 12 of 12", INDEX, () -> page.ruling(12, 0, true));
        Check.fails("17: topic -1", INDEX, () -> page.ruling(1, -1, true));
        Check.fails("17: topic 10", INDEX, () -> page.ruling(1, 10, true));
        Check.due("17: none of those counts, on the first topic", page.ruling(1, 0, true), 3);
        Check.due("17: none of those counts, on the last topic", page.ruling(1, 9, true), 3);
    }

    private static void rulingOnce() {
        for (int first = 0; first <= 1; first++) {
            for (int second = 0; second <= 1; second++) {
                GlossedPage page = pageWithRule(LATEST, 0, by(0, 0, first));
                boolean is = second == 1;
                Check.fails("17: " + first + ", then " + second, STATE, () -> page.ruling(0, 0, is));
                Check.due("17: the first ruling stays", page.decided(0), first);
                page.author(0, 0, 0);
                Check.due("17: another author's is the second", page.ruling(1, 0, is), 2);
                Check.due("17: on another topic he can", page.ruling(0, 1, is), 1);
            }
        }
    }

    private static void rulingOfAll() {
        GlossedPage page = new GlossedPage();
        for (int author = 0; author < 12; author++) {
            page.author(0, 0, 0);
            for (int topic = 0; topic <= 9; topic++) {
                Check.due("17: how many ruled on it then", page.ruling(author, topic, topic % 2 == 0), author + 1);
            }
        }
        page.follow(MOST, 0);
        for (int topic = 0; topic <= 9; topic++) {
            Check.due("17: as all twelve ruled", page.decided(topic), topic % 2 == 0 ? 1 : 0);
        }
    }

    // ---- 18: follow

    private static void followEnds() {
        GlossedPage page = new GlossedPage();
        Check.fails("18: kind -1", ARGUMENT, () -> page.follow(-1, 0));
        Check.fails("18: kind 4", ARGUMENT, () -> page.follow(4, 0));
        Check.fails("18: SCHOOL -1", ARGUMENT, () -> page.follow(SCHOOL, -1));
        Check.fails("18: SCHOOL 4", ARGUMENT, () -> page.follow(SCHOOL, 4));
        Check.fails("18: EXCEPT -1", ARGUMENT, () -> page.follow(EXCEPT, -1));
        Check.fails("18: EXCEPT 20", ARGUMENT, () -> page.follow(EXCEPT, 20));
        Check.fails("19: none of those came", INDEX, () -> page.unfollow(0));
        Check.due("18: SCHOOL 0", page.follow(SCHOOL, 0), 1);
        Check.due("18: SCHOOL 3", page.follow(SCHOOL, 3), 2);
        Check.due("18: EXCEPT 0", page.follow(EXCEPT, 0), 3);
        Check.due("18: EXCEPT 19", page.follow(EXCEPT, 19), 4);
        Check.due("18: LATEST", page.follow(LATEST, 0), 5);
        Check.due("18: MOST", page.follow(MOST, 0), 6);
        int[] kinds = {SCHOOL, SCHOOL, EXCEPT, EXCEPT, LATEST, MOST};
        for (int kind : kinds) {
            Check.due("18: each is the last one then", page.unfollow(0), kind);
        }
    }

    private static void followWhat() {
        int[] whats = {Integer.MIN_VALUE, -1, 0, 3, 4, 19, 20, Integer.MAX_VALUE};
        for (int what : whats) {
            GlossedPage page = new GlossedPage();
            Check.due("18: for LATEST it does not matter", page.follow(LATEST, what), 1);
            Check.due("18: for MOST it does not matter", page.follow(MOST, what), 2);
            page.author(0, 0, 0);
            page.ruling(0, 4, true);
            Check.due("18: LATEST as ever", page.decided(4), 1);
            page.unfollow(0);
            Check.due("18: MOST as ever", page.decided(4), 1);
            Check.due("18: of another topic nothing", page.decided(2), NONE);
        }
    }

    private static void atMost6Rules() {
        GlossedPage page = new GlossedPage();
        for (int rules = 1; rules <= 6; rules++) {
            Check.due("18: a rule more, the same one too", page.follow(LATEST, 0), rules);
        }
        Check.fails("18: there are 6", STATE, () -> page.follow(EXCEPT, 1));
        Check.due("18: the seventh tells nothing", page.decided(0), NONE);
        Check.fails("19: nor is it there", INDEX, () -> page.unfollow(6));
        Check.due("19: the last of six", page.unfollow(5), LATEST);
        Check.due("18: there is room again", page.follow(EXCEPT, 1), 6);
        Check.due("20: by the last of six", page.decided(0), 51);
        Check.fails("18: there are 6 again", STATE, () -> page.follow(EXCEPT, 3));
    }

    // ---- 19: unfollow

    private static void unfollowEnds() {
        GlossedPage page = new GlossedPage();
        Check.fails("19: there is none", INDEX, () -> page.unfollow(0));
        page.follow(MOST, 0);
        page.follow(LATEST, 0);
        Check.fails("19: place -1", INDEX, () -> page.unfollow(-1));
        Check.fails("19: place 2 of 2", INDEX, () -> page.unfollow(2));
        Check.due("19: the last one", page.unfollow(1), LATEST);
        Check.fails("19: its place is gone", INDEX, () -> page.unfollow(1));
        Check.due("19: the first one", page.unfollow(0), MOST);
        Check.fails("19: there is none any more", INDEX, () -> page.unfollow(0));
        Check.due("18: the first one again", page.follow(SCHOOL, 0), 1);
    }

    private static void unfollowMovesUp() {
        for (int place = 0; place < 6; place++) {
            GlossedPage page = new GlossedPage();
            for (int topic = 0; topic < 6; topic++) {
                page.follow(EXCEPT, 2 * topic + topic % 2);
            }
            Check.due("19: the kind of the rule " + place, page.unfollow(place), EXCEPT);
            for (int topic = 0; topic < 6; topic++) {
                int due = topic == place ? NONE : 10 * (topic < place ? topic : topic - 1) + topic % 2;
                Check.due("19: of six the rule " + place + " is gone, the topic " + topic, page.decided(topic), due);
            }
            Check.due("19: there are five", page.follow(MOST, 0), 6);
        }
    }

    // ---- 20: decided

    private static void decidedEnds() {
        GlossedPage page = new GlossedPage();
        page.author(0, 0, 0);
        page.ruling(0, 0, true);
        page.ruling(0, 9, false);
        Check.due("20: there is no rule", page.decided(0), NONE);
        page.follow(LATEST, 0);
        Check.due("20: the topic 0", page.decided(0), 1);
        Check.due("20: the topic 9", page.decided(9), 0);
        Check.due("20: a topic on which none ruled", page.decided(8), NONE);
        Check.fails("20: topic -1", INDEX, () -> page.decided(-1));
        Check.fails("20: topic 10", INDEX, () -> page.decided(10));
        page.unfollow(0);
        Check.due("20: there is no rule any more", page.decided(9), NONE);
    }

    private static void decidedByTheLastRule() {
        GlossedPage page = new GlossedPage();
        page.follow(SCHOOL, 3);
        page.follow(MOST, 0);
        page.follow(LATEST, 0);
        page.follow(EXCEPT, 3);
        page.follow(EXCEPT, 4);
        page.follow(EXCEPT, 5);
        Check.due("20: by the rule 3, yes", page.decided(1), 31);
        Check.due("20: by the rule 4, no, ahead of the rule 5, yes", page.decided(2), 40);
        page.unfollow(4);
        Check.due("20: by the rule behind it", page.decided(2), 41);
        page.author(0, 0, 0);
        page.ruling(0, 2, false);
        Check.due("20: the first that tells something", page.decided(2), 10);
    }

    private static void decidedBySchool() {
        dueDecided("SCHOOL 0, nobody ruled", NONE, SCHOOL, 0, by(0, 0, NONE));
        dueDecided("SCHOOL 0, yes", 1, SCHOOL, 0, by(0, 0, 1));
        dueDecided("SCHOOL 3, no", 0, SCHOOL, 3, by(2000, 3, 0));
        dueDecided("SCHOOL 1, those beside it ruled", NONE, SCHOOL, 1, by(5, 0, 1), by(5, 2, 1));
        dueDecided("SCHOOL 1, a later one of another", 0, SCHOOL, 1, by(5, 1, 0), by(6, 2, 1));
        dueDecided("SCHOOL 1, the latest of it", 1, SCHOOL, 1, by(5, 1, 0), by(6, 1, 1));
        dueDecided("SCHOOL 1, the latest of it comes first", 0, SCHOOL, 1, by(6, 1, 0), by(5, 1, 1));
        dueDecided("SCHOOL 1, of two of a year the lower", 0, SCHOOL, 1, by(6, 1, 0), by(6, 1, 1));
        dueDecided("SCHOOL 1, of three of two years", 1, SCHOOL, 1, by(5, 1, 0), by(6, 1, 1), by(6, 1, 0));
        dueDecided("SCHOOL 1, the latest did not rule", 0, SCHOOL, 1, by(5, 1, 0), by(6, 1, NONE));
        dueDecided("SCHOOL 1, the lower did not rule", 1, SCHOOL, 1, by(6, 1, NONE), by(6, 1, 1));
    }

    private static void decidedByLatest() {
        dueDecided("LATEST, no authors", NONE, LATEST, 0);
        dueDecided("LATEST, nobody ruled", NONE, LATEST, 0, by(0, 0, NONE));
        dueDecided("LATEST, of all schools", 1, LATEST, 0, by(0, 0, 0), by(1, 3, 1));
        dueDecided("LATEST, the latest comes first", 0, LATEST, 0, by(2000, 0, 0), by(1999, 3, 1));
        dueDecided("LATEST, of two of a year the lower", 1, LATEST, 0, by(7, 2, 1), by(7, 0, 0));
        dueDecided("LATEST, of those who ruled", 1, LATEST, 0, by(7, 2, 1), by(8, 0, NONE));
        int[][] twelve = new int[12][];
        for (int n = 0; n < 12; n++) {
            twelve[n] = by(100 + n, n % 4, n == 11 ? 1 : 0);
        }
        dueDecided("LATEST, the last of twelve", 1, LATEST, 0, twelve);
    }

    private static void decidedByMost() {
        dueDecided("MOST, nobody ruled", NONE, MOST, 0, by(0, 0, NONE));
        dueDecided("MOST, one yes", 1, MOST, 0, by(0, 0, 1));
        dueDecided("MOST, one no", 0, MOST, 0, by(0, 0, 0));
        dueDecided("MOST, one and one", NONE, MOST, 0, by(0, 0, 0), by(1, 0, 1));
        dueDecided("MOST, two yes and one no", 1, MOST, 0, by(0, 0, 1), by(1, 0, 1), by(2, 0, 0));
        dueDecided("MOST, one yes and two no", 0, MOST, 0, by(0, 0, 0), by(1, 0, 0), by(2, 0, 1));
        dueDecided("MOST, those who did not rule", 1, MOST, 0, by(0, 0, NONE), by(1, 0, 1), by(2, 0, NONE));
        for (int yes = 5; yes <= 7; yes++) {
            int[][] twelve = new int[12][];
            for (int n = 0; n < 12; n++) {
                twelve[n] = by(n, 0, n < yes ? 1 : 0);
            }
            int due = yes == 6 ? NONE : yes > 6 ? 1 : 0;
            dueDecided("MOST, " + yes + " yes of twelve", due, MOST, 0, twelve);
        }
    }

    private static void decidedByExcept() {
        for (int topic = 0; topic <= 9; topic++) {
            GlossedPage page = new GlossedPage();
            page.follow(EXCEPT, 2 * topic);
            Check.due("20: EXCEPT, no", page.decided(topic), 0);
            Check.due("20: EXCEPT, the topic beside it", page.decided(topic == 9 ? 8 : topic + 1), NONE);
            page.unfollow(0);
            page.follow(EXCEPT, 2 * topic + 1);
            Check.due("20: EXCEPT, yes", page.decided(topic), 1);
            Check.due("20: EXCEPT, the other beside it", page.decided(topic == 0 ? 1 : topic - 1), NONE);
        }
        GlossedPage page = pageWithRule(EXCEPT, 0, by(0, 0, 1));
        page.follow(MOST, 0);
        Check.due("20: EXCEPT, whatever was ruled", page.decided(0), 0);
    }
}
