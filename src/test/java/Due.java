/** Counts answers that are not as due, and writes texts letter by letter. */
final class Due {
    private int wrong;
    private int asked;

    void is(String call, long got, long due) {
        asked++;
        if (got != due) {
            wrong++;
            System.out.println(call + " answered " + got + ", due is " + due);
        }
    }

    void same(String when, String got, String due) {
        asked++;
        if (!got.equals(due)) {
            wrong++;
            System.out.println(when + " all is\n" + got + "due is\n" + due);
        }
    }

    /** Writes the text behind what stands there already. */
    static void write(RoofNet net, String text) {
        for (int i = 0; i < text.length(); i++) {
            net.write(text.charAt(i));
        }
    }

    static RoofNet laid(String text) {
        RoofNet net = new RoofNet();
        write(net, text);
        if (net.lay() < 0) {
            throw new IllegalStateException("not laid: " + text);
        }
        return net;
    }

    void faultOf(String text, int due) {
        RoofNet net = new RoofNet();
        write(net, text);
        is("fault() of " + text, net.fault(), due);
        int laid = net.lay();
        is("lay() is refused of " + text, laid == RoofNet.NO ? 1 : 0, due == RoofNet.NONE ? 0 : 1);
    }

    void end() {
        System.out.println(asked + " answers, " + wrong + " not as due");
        if (wrong != 0 || asked == 0) {
            System.exit(1);
        }
    }
}
