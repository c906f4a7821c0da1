import java.util.NoSuchElementException;

/** Promises 31 to 33: the input, texts that are carried out, and errors by place. */
public final class TextsTest {
    private static final Class<?> IMPROPER = IllegalArgumentException.class;
    private static final Class<?> REFUSED = UnsupportedOperationException.class;
    private static final Class<?> NOT_FOUND = NoSuchElementException.class;
    private static final Class<?> NOT_NOW = IllegalStateException.class;
    private static final Check CHECK = new Check("TextsTest");

    public static void main(String[] args) {
        append();
        errorsByPlace();
        strangeCharacters();
        goodTexts();
        ordersDoWhatTheirMethodsDo();
        nothingOfABadText();
        firstOrderDecides();
        refusalsInTexts();
        runIsOneChange();
        CHECK.end();
    }

    private static Object run(BellObservatory x, String text) {
        Check.type(x, text);
        return Check.answerOf(() -> x.run());
    }

    private static void append() {
        BellObservatory x = new BellObservatory();
        for (int size = 1; size <= 60; size++) {
            CHECK.due("append", size, () -> x.append('b'));
        }
        CHECK.due("append a 61st", NOT_NOW, () -> x.append('b'));
        CHECK.due("the input", 60, () -> x.account(11));
        CHECK.due("run", IMPROPER, () -> x.run());
        CHECK.due("the input is empty", 0, () -> x.account(11));
        CHECK.due("append again", 1, () -> x.append((char) 0));
        CHECK.due("append is no change", 0, () -> x.account(12));
    }

    private static void errorsByPlace() {
        BellObservatory x = new BellObservatory();
        CHECK.due("errorPosition at first", -1, () -> x.errorPosition());
        String[] texts = {
            "", "x", "H1/1-1", ";", "1", " b1", "b", "bx", "b1x", "b12x", "b123", "b1;", "b1;;", "b1;x", "b1 ;b1",
            "h", "h/", "h1", "h1-", "h12", "h123", "h1/", "h1/-", "h1/2", "h1/2/", "h1/23", "h1/234", "h1/2-", "h1/2-x",
            "h1/2-3x", "h1/2-345", "e", "e12", "e1", "e1-", "e1:", "e1::", "e1:2", "e1:23", "e1:2-", "e1:2-34", "e1:2-3:",
            "r", "r1+", "r1:", "r1:+", "r1:1", "r1:12", "r1:1-", "r1:1+", "r1:1++", "r1:1+12", "p", "p+", "p123",
            "r12:1+1", "t", "t12", "t1", "t1:", "t1=", "t1=x", "t1=123", "w", "w-1", "w123", "b1;h", "b1;b2;b3;r0", "b64;b64;q",
        };
        int[] due = {
            0, 0, 0, 0, 0, 0, 1, 1, 2, 3, 3, 3, 3, 3, 2,
            1, 1, 2, 2, 3, 3, 3, 3, 4, 4, 5, 5, 5, 5,
            6, 7, 1, 2, 2, 2, 3, 3, 4, 4, 5, 6, 6,
            1, 2, 3, 3, 4, 4, 4, 5, 5, 6, 1, 1, 3,
            2, 1, 2, 2, 2, 3, 3, 5, 1, 1, 3, 4, 11, 8,
        };
        CHECK.due("as many places as texts", texts.length, () -> due.length);
        for (int i = 0; i < texts.length; i++) {
            String text = texts[i];
            CHECK.due("run of " + text, IMPROPER, () -> run(x, text));
            CHECK.due("the error of " + text, due[i], () -> x.errorPosition());
        }
        CHECK.due("nothing was done", 0, () -> x.account(6));
        CHECK.due("nothing was refused", NOT_FOUND, () -> x.refusal(false));
        run(x, "b1");
        CHECK.due("no error then", -1, () -> x.errorPosition());
    }

    private static void strangeCharacters() {
        BellObservatory x = new BellObservatory();
        char[] strange = {(char) 0, (char) 128, (char) 233, (char) 255, (char) 256, (char) 0x661, (char) 0xFFFF};
        for (char sign : strange) {
            Check.type(x, "b");
            x.append(sign);
            CHECK.due("run of the sign " + (int) sign, IMPROPER, () -> x.run());
            CHECK.due("its place", 1, () -> x.errorPosition());
            x.append(sign);
            CHECK.due("run of the sign alone " + (int) sign, IMPROPER, () -> x.run());
            CHECK.due("its place alone", 0, () -> x.errorPosition());
        }
    }

    private static void goodTexts() {
        BellObservatory x = new BellObservatory();
        CHECK.due("one order", 1, () -> run(x, "b0"));
        CHECK.due("leading noughts", 2, () -> run(x, "b01;b63"));
        CHECK.due("three blocks", 3, () -> x.account(6));
        CHECK.due("twenty orders", 20, () -> run(x, "b9;b9;b9;b9;b9;b9;b9;b9;b9;b9;b9;b9;b9;b9;b9;b9;b9;b9;b9;b9"));
        CHECK.due("still three blocks", 3, () -> x.account(6));
        String full = "h10/10-10;h11/11-12;e7:0-7;p12;r1:1+1;t0=14;w99;w99;w99;b055";
        CHECK.due("sixty characters", 60, () -> full.length());
        CHECK.due("with an error at the last", IMPROPER, () -> run(x, full));
        CHECK.due("its place", 59, () -> x.errorPosition());
        CHECK.due("sixty characters of orders", 11,
                () -> run(x, "h10/10-10;h11/11-12;e7:0-7;p12;r1:1+1;t0=14;w99;w99;w9;b9;w9"));
        CHECK.due("no error", -1, () -> x.errorPosition());
        CHECK.due("the hours of them", 0, () -> x.account(0));
        CHECK.due("the days of them", 9, () -> x.account(1));
        CHECK.due("the input is empty", 0, () -> x.account(11));
    }

    private static void ordersDoWhatTheirMethodsDo() {
        BellObservatory x = new BellObservatory();
        BellObservatory y = new BellObservatory();
        CHECK.due("houses", 3, () -> run(x, "h16/22-06;h18/0-0;h63/9-17"));
        y.house(16, 22, 6);
        y.house(18, 0, 0);
        y.house(63, 9, 17);
        CHECK.due("blocks, halls and posts", 6, () -> run(x, "b1;b2;b1;e2:0-4;p0;p10"));
        y.block(2);
        y.hall(2, 0, 4);
        y.post(0);
        y.post(10);
        CHECK.due("rings", 3, () -> run(x, "r0:4+0;r1:0+3;r1:9+9"));
        y.ring(0, 4, 0);
        y.ring(1, 0, 3);
        y.ring(1, 9, 9);
        CHECK.due("posts that tell", 4, () -> run(x, "t0=3;t1=14;w25;w08"));
        y.tell(0, 3);
        y.tell(1, 14);
        y.pass(33);
        CHECK.due("both are alike", Check.stateOf(y), () -> Check.stateOf(x));
    }

    private static void nothingOfABadText() {
        BellObservatory x = new BellObservatory();
        x.house(0, 0, 0);
        x.post(0);
        x.hall(0, 0, 0);
        x.block(9);
        x.block(8);
        x.ring(0, 5, 0);
        String ahead = Check.stateOf(x);
        String good = "h1/1-2;b9;e1:1-2;r0:9+9;p5;t0=3;w30;";
        String[] wrong = {"b64", "h64/0-0", "h2/24-0", "h2/0-24", "e8:0-0", "e0:3-2", "e0:0-8", "r2:1+0", "r0:0+0", "p64",
            "t2=1", "t0=15", "w0", "w00", "e9:9-9", "t9=99", "h99/99-99"};
        for (String order : wrong) {
            CHECK.due("run with " + order, IMPROPER, () -> run(x, good + order));
            CHECK.due("no error in it", -1, () -> x.errorPosition());
        }
        CHECK.due("a wrong order is not refused", NOT_FOUND, () -> x.refusal(false));
        CHECK.due("the state stays", ahead, () -> Check.stateOf(x));
        String[] refused = {"h1/0-0", "h8/0-0", "b0", "e0:0-0", "p0", "p8", "t0=3"};
        for (String order : refused) {
            CHECK.due("run with " + order, REFUSED, () -> run(x, good + order));
            CHECK.due("no error in it", -1, () -> x.errorPosition());
        }
        CHECK.due("the state stays again", ahead, () -> Check.stateOf(x));
        CHECK.due("nothing more can be undone", 6, () -> x.account(12));
        CHECK.due("an error", IMPROPER, () -> run(x, good));
        CHECK.due("its place", good.length(), () -> x.errorPosition());
        CHECK.due("the state stays once more", ahead, () -> Check.stateOf(x));
    }

    private static void firstOrderDecides() {
        BellObservatory x = new BellObservatory();
        x.house(0, 0, 0);
        CHECK.due("refused ahead of wrong", REFUSED, () -> run(x, "b0;b64"));
        CHECK.due("wrong ahead of refused", IMPROPER, () -> run(x, "b64;b0"));
        CHECK.due("an error ahead of refused", IMPROPER, () -> run(x, "b0;b"));
        CHECK.due("its place", 4, () -> x.errorPosition());
        CHECK.due("the first refusal", REFUSED, () -> run(x, "w1;b0;b7;h7/0-0"));
        CHECK.due("its reason", 3, () -> x.refusal(false));
        CHECK.due("a house that comes to be", 2, () -> run(x, "h7/0-0;r1:1+0"));
        CHECK.due("a house that is not there yet", IMPROPER, () -> run(x, "r2:1+0;h6/0-0"));
    }

    private static void refusalsInTexts() {
        BellObservatory x = new BellObservatory();
        CHECK.due("a house on a house", REFUSED, () -> run(x, "h5/0-0;h6/0-0;h6/1-2"));
        CHECK.due("its reason", 3, () -> x.refusal(false));
        CHECK.due("the house that would have been", 1, () -> x.refusal(true));
        for (int cell = 40; cell < 48; cell++) {
            x.house(cell, 0, 0);
        }
        CHECK.due("eleven houses", REFUSED, () -> run(x, "h0/0-0;h1/0-0;h2/0-0"));
        CHECK.due("the most houses", 1010, () -> 1000 * x.refusal(false) + x.refusal(true));
        CHECK.due("a post on a post", REFUSED, () -> run(x, "p1;p2;p2"));
        CHECK.due("reason 7", 7001, () -> 1000 * x.refusal(false) + x.refusal(true));
        CHECK.due("five posts", REFUSED, () -> run(x, "p1;p2;p3;p4;p5"));
        CHECK.due("reason 1", 1004, () -> 1000 * x.refusal(false) + x.refusal(true));
        CHECK.due("five halls", REFUSED, () -> run(x, "e0:0-0;e1:0-0;e2:0-0;e3:0-0;e4:0-0"));
        CHECK.due("reason 1 of halls", 1004, () -> 1000 * x.refusal(false) + x.refusal(true));
        CHECK.due("a hall in a hall", REFUSED, () -> run(x, "e1:4-6;e1:0-5"));
        CHECK.due("reason 4", 4012, () -> 1000 * x.refusal(false) + x.refusal(true));
        CHECK.due("a post that tells of nothing", REFUSED, () -> run(x, "p1;r0:1+0;t0=3"));
        CHECK.due("reason 5", 5000, () -> 1000 * x.refusal(false) + x.refusal(true));
        CHECK.due("a post that tells again", REFUSED, () -> run(x, "p1;r0:3+0;t0=3;t0=4;t0=4"));
        CHECK.due("reason 6", 6004, () -> 1000 * x.refusal(false) + x.refusal(true));
        CHECK.due("a post on a block", REFUSED, () -> run(x, "b63;p63"));
        CHECK.due("reason 2", 2063, () -> 1000 * x.refusal(false) + x.refusal(true));
        CHECK.due("none of it was done", 8, () -> x.account(2) + x.account(3) + x.account(4) + x.account(6));
    }

    private static void runIsOneChange() {
        BellObservatory x = new BellObservatory();
        x.pass(3);
        String ahead = Check.stateOf(x);
        CHECK.due("run", 4, () -> run(x, "w5;h9/1-2;b8;r0:9+9"));
        CHECK.due("two changes", 2, () -> x.account(12));
        CHECK.due("undo", 1, () -> x.undo());
        CHECK.due("the state ahead of the text", ahead, () -> Check.stateOf(x));
        CHECK.due("the input stays empty", 0, () -> x.account(11));
    }
}
