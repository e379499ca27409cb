/** Ways to look at all of an object, also at what shows only by further calls: bytes told, rows in memory, a backup. */
enum Afterwards {
    ASKED {
        @Override
        String seen(StockLog log) {
            return Scenes.all(log);
        }
    },
    ENDED {
        @Override
        String seen(StockLog log) {
            return Check.outcome(() -> log.end(1)) + " " + Scenes.all(log);
        }
    },
    SYNCED {
        @Override
        String seen(StockLog log) {
            return Check.outcome(log::sync) + Disk.text(log) + " " + Check.outcome(log::start) + Scenes.all(log);
        }
    },
    CUT {
        @Override
        String seen(StockLog log) {
            return Check.outcome(() -> Scenes.cut(log, log.count(3) / 2, 1)) + " " + Scenes.all(log);
        }
    },
    STARTED {
        @Override
        String seen(StockLog log) {
            return Check.outcome(log::start) + " " + Scenes.all(log);
        }
    },
    RESTORED {
        @Override
        String seen(StockLog log) {
            return Check.outcome(log::restore) + " " + Scenes.all(log);
        }
    };

    abstract String seen(StockLog log);
}
