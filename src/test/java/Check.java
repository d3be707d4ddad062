/** Counts and prints the calls whose answer is not the one that is due. */
final class Check {
    interface Call {
        long answer();
    }

    interface Deed {
        void run();
    }

    private int wrong = 0;
    private int looked = 0;

    void answers(String call, long due, Call got) {
        same(call, Long.toString(due), told(got));
    }

    void refuses(String call, Class<? extends RuntimeException> due, Deed got) {
        same(call, "throws." + due.getSimpleName(), outcome(got));
    }

    void accepts(String call, Deed got) {
        same(call, "nothing", outcome(got));
    }

    void same(String call, String due, String answer) {
        looked++;
        if (!due.equals(answer)) {
            wrong++;
            System.out.println(call + " answered " + answer + ", due is " + due);
        }
    }

    void end() {
        System.out.println(looked + " answers looked at, " + wrong + " not as due");
        if (wrong != 0) {
            System.exit(1);
        }
    }

    /** The answer of a call as a text, or what it throws. */
    static String told(Call got) {
        try {
            return Long.toString(got.answer());
        } catch (RuntimeException e) {
            return "throws." + e.getClass().getSimpleName();
        }
    }

    /** Whether a call throws, and what, whatever it answers. */
    static String outcome(Deed got) {
        try {
            got.run();
        } catch (RuntimeException e) {
            return "throws." + e.getClass().getSimpleName();
        }
        return "nothing";
    }
}
