import java.util.List;

/** The KINDS of section 5 of the document as Java classes, for Model. */
final class Kinds {
    private Kinds() {
    }

    interface Wakes {
        int n();

        void began(int body);

        default int wakes(int x) {
            began(1);
            return x + n();
        }
    }

    interface Tells {
        void began(int body);

        int hushes(int x);

        int cries(int x);

        default int tells(int x) {
            began(2);
            return hushes(x) - cries(1);
        }
    }

    static class Blade implements Wakes, Tells {
        private final int n;
        private final int kind;
        private final List<Integer> trace;

        Blade(int kind, int n, List<Integer> trace) {
            this.kind = kind;
            this.n = n;
            this.trace = trace;
        }

        int kind() {
            return kind;
        }

        @Override
        public int n() {
            return n;
        }

        @Override
        public void began(int body) {
            trace.add(body);
        }

        @Override
        public int hushes(int x) {
            began(10);
            return wakes(x) * 2;
        }

        @Override
        public int cries(int x) {
            began(11);
            return x ^ n;
        }
    }

    static class Rapier extends Blade {
        Rapier(int kind, int n, List<Integer> trace) {
            super(kind, n, trace);
        }

        @Override
        public int wakes(int x) {
            began(20);
            return super.wakes(x) + 3;
        }
    }

    static class Dirk extends Blade {
        Dirk(int kind, int n, List<Integer> trace) {
            super(kind, n, trace);
        }

        @Override
        public int hushes(int x) {
            began(30);
            return -super.hushes(x);
        }
    }

    static class Cot extends Dirk {
        Cot(int kind, int n, List<Integer> trace) {
            super(kind, n, trace);
        }

        @Override
        public int cries(int x) {
            began(40);
            return super.cries(x) * 3;
        }

        @Override
        public int hushes(int x) {
            began(41);
            return super.hushes(x + 1);
        }
    }

    static class Naseby extends Rapier {
        Naseby(int kind, int n, List<Integer> trace) {
            super(kind, n, trace);
        }

        @Override
        public int cries(int x) {
            began(50);
            return super.cries(x) - wakes(2);
        }
    }

    static class Aunt extends Cot {
        Aunt(int kind, int n, List<Integer> trace) {
            super(kind, n, trace);
        }

        @Override
        public int tells(int x) {
            began(60);
            return super.tells(x) ^ 5;
        }
    }

    static class Candle extends Blade {
        Candle(int kind, int n, List<Integer> trace) {
            super(kind, n, trace);
        }

        @Override
        public int wakes(int x) {
            began(70);
            return super.wakes(x) * 2;
        }
    }

    static class Rug extends Naseby {
        Rug(int kind, int n, List<Integer> trace) {
            super(kind, n, trace);
        }

        @Override
        public int hushes(int x) {
            began(80);
            return super.hushes(x) + cries(2);
        }

        @Override
        public int tells(int x) {
            began(81);
            return super.tells(x) - 1;
        }
    }

    static Blade make(int kind, int n, List<Integer> trace) {
        switch (kind) {
            case 0: return new Blade(kind, n, trace);
            case 1: return new Rapier(kind, n, trace);
            case 2: return new Dirk(kind, n, trace);
            case 3: return new Cot(kind, n, trace);
            case 4: return new Naseby(kind, n, trace);
            case 5: return new Aunt(kind, n, trace);
            case 6: return new Candle(kind, n, trace);
            default: return new Rug(kind, n, trace);
        }
    }
}
