/** A plain call that makes a node of each KIND, in the order of their numbers; its input has SHAPE 2, 2, 2. */
enum Maker {
    INPUT {
        @Override
        int make(TensorForge x, int node, double scale) {
            return x.input(2, 2, 2, scale);
        }
    },
    CONV {
        @Override
        int make(TensorForge x, int node, double scale) {
            return x.windows(node, 12, false, 0, scale);
        }
    },
    DEPTHWISE {
        @Override
        int make(TensorForge x, int node, double scale) {
            return x.windows(node, 0, true, 0, scale);
        }
    },
    DENSE {
        @Override
        int make(TensorForge x, int node, double scale) {
            return x.dense(node, 1, 0, scale);
        }
    },
    ADD {
        @Override
        int make(TensorForge x, int node, double scale) {
            return x.add(node, node, scale);
        }
    },
    CONCAT {
        @Override
        int make(TensorForge x, int node, double scale) {
            return x.concat(node, node);
        }
    },
    RESHAPE {
        @Override
        int make(TensorForge x, int node, double scale) {
            return x.reshape(node, 1, 4, 2);
        }
    },
    MAX {
        @Override
        int make(TensorForge x, int node, double scale) {
            return x.pool(node, 0, false);
        }
    },
    AVERAGE {
        @Override
        int make(TensorForge x, int node, double scale) {
            return x.pool(node, 0, true);
        }
    },
    CLAMP {
        @Override
        int make(TensorForge x, int node, double scale) {
            return x.clamp(node, 0, 1);
        }
    },
    RESCALE {
        @Override
        int make(TensorForge x, int node, double scale) {
            return x.rescale(node, scale);
        }
    };

    abstract int make(TensorForge x, int node, double scale);

    int make(TensorForge x, int node) {
        return make(x, node, 1.0);
    }

    int kind() {
        return ordinal();
    }

    boolean takesNode() {
        return this != INPUT;
    }

    boolean hasRatio() {
        return this == CONV || this == DEPTHWISE || this == DENSE || this == ADD || this == RESCALE;
    }

    boolean takesScale() {
        return this == INPUT || hasRatio();
    }
}
