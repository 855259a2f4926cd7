/** Promises 20 to 23: returns, and the book. */
public final class ReturnsTest {
    public static void main(String[] args) {
        returned();
        asking();
        bearAsItWasThen();
        writing();
        tearing();
        judging();
        Check.end();
    }

    private static void went(Called x, String when, int count, int inEach, int ask) {
        Check.due("how many went, " + when, x.told(14), count);
        Check.due("which in each, " + when, x.told(15), inEach);
        Check.due("which to ask, " + when, x.told(16), ask);
    }

    private static void returned() {
        Called x = new Called();
        Check.due("returned(-1) without hills", x.returned(-1), Check.OUTSIDE);
        Check.due("returned(0) without hills", x.returned(0), Check.NOT);
        x = Check.withHills();
        String before = Check.seen(x);
        Check.due("returned(-1)", x.returned(-1), Check.OUTSIDE);
        Check.due("returned(1000)", x.returned(1000), Check.OUTSIDE);
        Check.unchanged(x, before);
        went(x, "nothing returned", 8, 0, 0);
        Check.due("returned(39)", x.returned(39), 1);
        went(x, "39", 1, 6, -1);
        for (int i = 2; i <= 6; i++) Check.due("returned(39) again", x.returned(39), i);
        before = Check.seen(x);
        Check.due("returned(39) a seventh time", x.returned(39), Check.FULL);
        Check.due("returned(1000) a seventh time", x.returned(1000), Check.OUTSIDE);
        Check.unchanged(x, before);
        went(x, "39 six times", 1, 6, -1);
        Check.due("tear()", x.tear(), 6);
        Check.due("returned(999)", x.returned(999), 1);
        went(x, "999", 0, -1, -1);
        x.tear();
        x.returned(0);
        went(x, "0", 1, 0, -1);
    }

    private static void asking() {
        Called x = Check.with("o1 1;v5;v0;v5;v10;");
        went(x, "nothing returned", 16, 0, 0);
        // of 10: {0, 2} or {3}, with 1 or without
        x.returned(10);
        went(x, "10", 4, 0, 0);
        x.tear();
        // of 15: {0, 3}, {2, 3}, with 1 or without
        x.returned(15);
        went(x, "15", 4, 8, 0);
        x.tear();
        // of 20 all but 1, which alone tells them apart
        x.returned(20);
        went(x, "20", 2, 13, 1);
        x = Check.with("o1 1;v10;v10;v10;v30;");
        // of 30: {0, 1, 2} or {3}
        x.returned(30);
        went(x, "30", 2, 0, 0);
        x.tear();
        // of 10: one of three; each parts 1 from 2
        x.returned(10);
        went(x, "10 of three", 3, 0, 0);
        x = Check.with("o1 1;v30;v20;v10;v10;");
        // of 30: {0}, {1, 2}, {1, 3}: the greater part is 2 by each
        x.returned(30);
        went(x, "30 of four", 3, 0, 0);
        x.tear();
        // of 40: {0, 2}, {0, 3}, {1, 2, 3}
        x.returned(40);
        went(x, "40 of four", 3, 0, 0);
        x = Check.with("o1 1;v40;v10;v20;v10;");
        // of 40: {0}, {1, 2, 3}
        x.returned(40);
        went(x, "40", 2, 0, 0);
        x = Check.with("o1 1;v1;v2;v3;v0;");
        // of 3: {2}, {0, 1}, with 3 or without
        x.returned(3);
        went(x, "3", 4, 0, 0);
        // of 6: {0, 1, 2}, with 3 or without: only 3 tells them apart
        x.tear();
        x.returned(6);
        went(x, "6", 2, 7, 3);
        x = Check.with("o1 1;v1;v2;v3;v4;");
        // of 6: {1, 3}, {0, 1, 2}: 0 is the first that parts them, 1 is in both
        x.returned(6);
        went(x, "6 of four", 2, 2, 0);
        x.tear();
        // of 7: {2, 3}, {0, 1, 3}
        x.returned(7);
        went(x, "7 of four", 2, 8, 0);
        x = Check.with("o1 1;v9;v0;v0;v0;");
        x.returned(0);
        // 0 is in none, 1 parts 4 from 4
        went(x, "0 of four", 8, 0, 1);
        x = Check.with("o1 1;v2;v1;v1;v0;");
        // of 2: {0}, {1, 2}, with 3 or without; of 3 then: none
        x.returned(2);
        went(x, "2", 4, 0, 0);
        x = Check.with("o1 1;v3;v1;v1;v1;");
        // of 1: {1}, {2}, {3}
        x.returned(1);
        went(x, "1", 3, 0, 1);
        x = Check.with("o1 1;v2;v2;v1;v1;");
        // of 4: {0, 1}, {0, 2, 3}, {1, 2, 3}: all part 2 from 1
        x.returned(4);
        went(x, "4", 3, 0, 0);
        x.tear();
        // of 3: {0, 2}, {0, 3}, {1, 2}, {1, 3}
        x.returned(3);
        went(x, "3 by halves", 4, 0, 0);
        x = Check.with("o1 1;v3;v1;v2;v1;");
        // of 4: {0, 1}, {0, 3}, {1, 2, 3}: 2, 2, 1 (2 apart), 2
        x.returned(4);
        went(x, "4 of four", 3, 0, 0);
        x = Check.with("o1 1;v1;v1;v1;v3;");
        // of 3: {3}, {0, 1, 2}; of 2: {0, 1}, {0, 2}, {1, 2}
        x.returned(2);
        went(x, "2 of three", 3, 0, 0);
        x = Check.with("o1 1;v4;v1;v1;v2;");
        // of 4: {0}, {1, 2, 3}; of 6: {0, 3}, {0, 1, 2}: 0 is in both, 1 is the first that parts them
        x.returned(6);
        went(x, "6 with 0 in both", 2, 1, 1);
        x = Check.with("o1 1;v1;v1;v1;v1;");
        // {0}, {1}, {2}, {3}: each parts 1 from 3; then 0 and 1 together: each parts 1 from 1
        x.returned(1);
        went(x, "1 of four", 4, 0, 0);
        x.bear(0, 0);
        x.bear(1, 0);
        x.returned(1);
        went(x, "then 1 of two", 2, 0, 2);
        x = Check.with("o1 1;v5;v1;v1;v0;");
        // of 1: {1}, {2}, with 3 or without: 0 parts none, 1 by halves
        x.returned(1);
        went(x, "1 by halves", 4, 0, 1);
        x = Check.with("o1 1;v3;v2;v1;v0;");
        // of 3: {0}, {1, 2}, and 3: by halves all
        x.returned(3);
        went(x, "3 by halves all", 4, 0, 0);
        x = Check.with("o1 1;v1;v1;v1;v0;");
        // of 1: three, with 3 or without: 0 parts 2 from 4, 3 by halves, which is best
        x.returned(1);
        went(x, "the last by halves", 6, 0, 3);
    }

    private static void bearAsItWasThen() {
        Called x = Check.withHills();
        x.returned(20);
        went(x, "20", 1, 1, -1);
        x.bear(0, 5);
        x.bear(2, 20);
        went(x, "20, of what it was", 1, 1, -1);
        x.returned(20);
        went(x, "20 twice, by another village now", 0, -1, -1);
        x.tear();
        x.returned(20);
        went(x, "20, as it is now", 1, 4, -1);
        x.undo();
        x.undo();
        went(x, "20, undone later", 1, 4, -1);
    }

    private static void writing() {
        Called x = Check.withHills();
        String before = Check.seen(x);
        Check.due("write(5, 0)", x.write(5, 0), Check.UNKNOWN);
        Check.due("write(-1, -1)", x.write(-1, -1), Check.UNKNOWN);
        Check.due("write(0, -1)", x.write(0, -1), Check.OUTSIDE);
        Check.due("write(0, 10000)", x.write(0, 10000), Check.OUTSIDE);
        Check.unchanged(x, before);
        for (int i = 1; i <= 15; i++) Check.due("write number " + i, x.write(4, i == 1 ? 9999 : 0), i);
        before = Check.seen(x);
        Check.due("write a sixteenth", x.write(0, 0), Check.FULL);
        Check.due("write a sixteenth, outside", x.write(0, 10000), Check.OUTSIDE);
        Check.due("write a sixteenth, unknown", x.write(5, 0), Check.UNKNOWN);
        Check.unchanged(x, before);
        Check.due("entries", x.told(17), 15);
        Check.due("the first is false", x.judge(), 0);
    }

    private static void tearing() {
        Called x = Check.withHills();
        x.returned(3);
        x.returned(4);
        x.write(0, 5);
        Check.due("tear()", x.tear(), 3);
        Check.due("no returns", x.told(13), 0);
        Check.due("no entries", x.told(17), 0);
        Check.due("no false one", x.judge(), Check.NONE);
        Check.due("all sets fit", x.told(14), 8);
        Check.due("tear() again", x.tear(), 0);
    }

    private static void judging() {
        Called x = Check.withHills();
        Check.due("an empty book", x.judge(), Check.NONE);
        x.write(0, 0);
        x.write(1, 0);
        x.write(1, 7);
        x.write(2, 9);
        Check.due("the first that is otherwise", x.judge(), 2);
        x.tell(1, 7);
        Check.due("a fate is no harm", x.judge(), 2);
        x.year(1);
        Check.due("now the other is otherwise", x.judge(), 1);
        x.undo();
        Check.due("as it is now", x.judge(), 2);
        x.tear();
        x.write(3, 0);
        Check.due("all is so", x.judge(), Check.NONE);
    }
}
